/** The FAULTS of a TEXT (Terms, promises 3 and 4): which is told, and where, for each that the document names. */
public final class FaultEdgesTest {
    private static final String FLOOR = "aisle 7 2;aisle 50 3;aisle 20 5;way 0 1;way 2 1;";
    private static final String END = "";

    public static void main(String[] args) {
        firstAlongTheText();
        firstByte();
        endsTooSoon();
        cannotStandThere();
        leastOfOneToken();
        tooManyDigits();
        firstTokenOfOneTooMany();
        thirteenthAisle();
        exprWithinSixOthers();
        seventhNot();
        noValue();
        notToldAhead();
        secondAisle();
        secondSetting();
        routeStep();
        takesMore();
        Check.end("FaultEdgesTest");
    }

    private static void inFloor(String line, int fault, int place) {
        Check.fault(FLOOR + line, fault, place < 0 ? place : FLOOR.length() + place);
    }

    /** An EXPR as a rule; its place counts from the EXPR's first byte. */
    private static void expr(String expr, int fault, int place) {
        Check.fault("rule " + expr + ";", fault, place < 0 ? place : 5 + place);
    }

    private static void firstAlongTheText() {
        Check.sentence("FAULTS, the first along the text");
        String[] lines = {"aisle ;", "notice 10;", "way 0 7;", "way 0 0;", "stops 1;stops 1;", "buyer 1 0 0 1;"};
        int[] places = {6, 7, 6, 6, 8, 12};
        for (int a = 0; a < 6; a++) {
            inFloor(lines[a], a + 1, places[a]);
            for (int b = 0; b < 6; b++) {
                inFloor(lines[a] + lines[b], a + 1, places[a]);
                inFloor("rule 1; " + lines[a] + lines[b], a + 1, 8 + places[a]);
            }
        }
    }

    private static void firstByte() {
        Check.sentence("at a TOKEN's first byte");
        Check.fault("aisle \n\n 1000 1;", 2, 9);
        Check.fault("aisle 1  aisle;", 1, 9);
        Check.fault("\n \n;", 1, 3);
        Check.fault("rule  moat;", 3, 6);
        inFloor("way 0 \n 0001;", 4, 8);
        inFloor("notice 1;  notice;", 5, 11);
        inFloor("lapse 1 0 0  0002;", 6, 13);
        inFloor("lapse 1 2 0 0  ;", 6, 15);
        inFloor("way 0 12345;", 2, 6);
    }

    /** Each TOKEN of right lines is the last one of a text: only behind a ';' it may be. */
    private static void endsTooSoon() {
        Check.sentence("the text's length where it ends too soon");
        String[] tokens = ("aisle 1 2 ; aisle 3 4 ; way 0 1 ; mirror 0 1 ; buyer 1 1 0 0 1 ; thief 2 0 9 0 ; lapse 3 1 1 0 ; "
            + "staff 4 0 0 0 ; notice 3 ; false 4 ; stops 1 ; rule not ( coat + 1 ) < 2 * far and 3 or took - 4 / 5 = 6 ;").split(" ");
        StringBuilder row = new StringBuilder();
        for (String token : tokens) {
            row.append(token);
            boolean whole = token.equals(";");
            Check.fault(row.toString(), whole ? 0 : 1, whole ? -1 : row.length());
            row.append(" \n ");
            Check.fault(row.toString(), whole ? 0 : 1, whole ? -1 : row.length());
        }
        Check.fault(END, 0, -1);
        Check.fault("     ", 0, -1);
    }

    private static void cannotStandThere() {
        Check.sentence("1 a TOKEN that can't stand there, or is none");
        for (String first : new String[] {"1", ";", "(", "+", "coat", "not", "ways", "wa", "x", "#", "\t", "A", "\0", "\u00ff"}) {
            inFloor(first + " 0 0;", 1, 0);
        }
        String[] lines = {"aisle # 1;", "aisle 1 #;", "way # 1;", "way 0 #;", "mirror # 1;", "mirror 1 #;", "buyer # 0 0 0;",
            "buyer 1 # 0 0;", "buyer 1 0 # 0;", "buyer 1 0 0 #;", "notice #;", "false #;", "stops #;", "rule #;"};
        for (String line : lines) {
            for (String token : new String[] {"#", "x", ";", "-", "\u00e9", "aisle"}) {
                boolean part = line.startsWith("rule") && token.matches("[a-z]+");
                inFloor(line.replace("#", token), part ? 3 : 1, line.indexOf('#'));
            }
        }
        String[] whole = {"aisle 1 1", "way 0 2", "mirror 0 2", "buyer 1 0 0 0", "notice 1", "false 1", "stops 1", "rule 1"};
        for (String line : whole) {
            for (String token : new String[] {"#", "x", "(", "\u00e9", "aisle"}) {
                inFloor(line + " " + token + ";", 1, line.length() + 1);
            }
            boolean route = line.startsWith("buyer");
            inFloor(line + " 0;", route ? 0 : 1, route ? -1 : line.length() + 1);
            inFloor(line + " 12345;", route ? 2 : 1, line.length() + 1);
        }
    }

    private static void leastOfOneToken() {
        Check.sentence("of one TOKEN the least");
        inFloor("way 10000 0;", 2, 4);
        inFloor("way 0 10000;", 2, 6);
        inFloor("mirror 1 00001;", 2, 9);
        inFloor("lapse 1 0 0 10000;", 2, 12);
        inFloor("lapse 1 0 0 0 10000;", 2, 14);
        inFloor("lapse 1 0 0 7;", 3, 12);
        inFloor("lapse 1 0 0 0 7;", 3, 14);
        inFloor("lapse 1 9 0 7;", 3, 12);
        inFloor("way 7 7;", 3, 4);
        inFloor("mirror 7 7;", 3, 7);
        String twelve = "lapse 1 0 0" + " 0".repeat(12);
        inFloor(twelve + " 0;", 2, twelve.length() + 1);
        inFloor(twelve + " 2;", 2, twelve.length() + 1);
        inFloor(twelve + " 7;", 2, twelve.length() + 1);
        inFloor(twelve + " 10000;", 2, twelve.length() + 1);
        expr("((((((moat))))))", 2, 6);
        expr("((((((or))))))", 2, 6);
        expr("((((((10000))))))", 2, 6);
    }

    private static void tooManyDigits() {
        Check.sentence("2 one that can, but is too much: a NUMBER of 5 digits or more, or (not in an EXPR) not as told");
        for (String digits : new String[] {"00000", "00001", "10000", "99999", "000000000000000001", "4294967297"}) {
            inFloor("aisle " + digits + " 1;", 2, 6);
            inFloor("aisle 1 " + digits + ";", 2, 8);
            inFloor("way " + digits + " 1;", 2, 4);
            inFloor("mirror 0 " + digits + ";", 2, 9);
            inFloor("buyer " + digits + " 0 0 0;", 2, 6);
            inFloor("buyer 1 " + digits + " 0 0;", 2, 8);
            inFloor("buyer 1 0 " + digits + " 0;", 2, 10);
            inFloor("buyer 1 0 0 " + digits + ";", 2, 12);
            inFloor("notice " + digits + ";", 2, 7);
            expr(digits, 2, 0);
            expr("1<" + digits, 2, 2);
            expr("1 " + digits, 1, 2);
        }
        expr("9999", 0, -1);
        expr("9999*9999", 0, -1);
    }

    private static void firstTokenOfOneTooMany() {
        Check.sentence("the first TOKEN of the 11th AISLE, the 17th WAY, the 7th MIRROR, the 9th of PEOPLE, .. the 5th RULE");
        String ten = "aisle 1 1;".repeat(10);
        String ways = "";
        for (int i = 0; i < 16; i++) {
            ways += "way " + i / 8 + " " + (i / 8 + i % 8 + 1) + ";";
        }
        String mirrors = "mirror 0 1;mirror 0 2;mirror 0 3;mirror 1 0;mirror 2 0;mirror 3 0;";
        String people = "staff 1 0 0 0;".repeat(8);
        String rules = "rule 1;".repeat(4);
        String[] full = {ten, ten + ways, ten + mirrors, ten + people, rules};
        String[] more = {"aisle", "way", "mirror", "thief", "rule"};
        String[] other = {"rule 1;", "mirror 4 5;", "way 0 9;", "notice 1;", "aisle 1 1;"};
        for (int i = 0; i < 5; i++) {
            int end = full[i].length();
            Check.fault(full[i], 0, -1);
            Check.fault(full[i] + " " + more[i] + " 1 1;", 2, end + 1);
            Check.fault(full[i] + " " + more[i], 2, end + 1);
            Check.fault(full[i] + " " + more[i] + ";", 2, end + 1);
            Check.fault(full[i] + " " + more[i] + " #", 2, end + 1);
            Check.fault(full[i] + " " + more[i] + "s 1 1;", 1, end + 1);
            Check.fault(full[i] + other[i], 0, -1);
        }
    }

    private static void thirteenthAisle() {
        Check.sentence("the 13th AISLE of a ROUTE");
        for (int takes = 0; takes <= 12; takes += 4) {
            String twelve = "lapse 1 " + takes + " 0 0 1 2 2 1 0 0 1 2 1 0 0";
            inFloor(twelve + ";", 0, -1);
            inFloor(twelve + "  0;", 2, twelve.length() + 2);
            inFloor(twelve + " 0", 2, twelve.length() + 1);
            inFloor(twelve + " 0 0 0 0;", 2, twelve.length() + 1);
            inFloor(twelve + " x;", 1, twelve.length() + 1);
        }
    }

    private static void exprWithinSixOthers() {
        Check.sentence("of an EXPR within 6 others (a NUMBER, any word, a parenthesis)");
        String[] five = {"(((((", "1+(((((", "not(((((", "1 or(((((", "(1)*(((((", "(((((1)))))<(((((", "(1+(2*(3<(not(1 and "};
        for (String open : five) {
            int at = open.length();
            String close = ")))))";
            expr(open + "1" + close, 0, -1);
            expr(open + "not 1" + close, 0, -1);
            expr(open + "(1)" + close, 2, at + 1);
            for (String first : new String[] {"2", "9999", "10000", "coat", "moat", "not", "or", "aisle", "(", "(("}) {
                expr(open + "(" + first, 2, at + 1);
                expr(open + "( " + first, 2, at + 2);
            }
            for (String first : new String[] {")", "+", "-", "<", "=", "*", "/", ";", "#", "A"}) {
                expr(open + "(" + first, 1, at + 1);
            }
            Check.fault("rule " + open + "(", 1, at + 6);
            Check.fault("rule " + open + "(  ", 1, at + 8);
        }
        expr("((((((1", 2, 6);
        expr("(((((1)))))+(((((2)))))+(((((3)))))", 0, -1);
        Check.fault("rule " + "(".repeat(690), 2, 11);
    }

    private static void seventhNot() {
        Check.sentence("the seventh 'not' side by side");
        String six = "not not not not not not ";
        expr(six + "1", 0, -1);
        expr(six + "not 1", 2, 24);
        expr(six + "not", 2, 24);
        expr(six + "not not not", 2, 24);
        expr(six + "moat", 3, 24);
        expr(six + "(" + six + "1)", 0, -1);
        expr(six + "(" + six + "not 1)", 2, 49);
        expr(six + "1 and " + six + "1 or " + six + "1", 0, -1);
        expr(six + "1 and " + six + "not 1", 2, 54);
        expr(six + "1 or " + six + "not 1", 2, 53);
        expr("(((((" + six + "1)))))", 0, -1);
        expr("(((((" + six + "not 1)))))", 2, 29);
        Check.fault("rule " + "not ".repeat(170), 2, 29);
    }

    private static void noValue() {
        Check.sentence("3 any word where a PART must stand that is no VALUE");
        String[] ahead = {"", "not ", "(", "1+", "1-", "1*", "1/", "1<", "1=", "1 and ", "1 or ", "not not ", "1+2*", "(1)="};
        for (String start : ahead) {
            for (String word : new String[] {"moat", "a", "z", "and", "or", "aisle", "rule", "coats", "coa", "heretook", "buyer"}) {
                expr(start + word, 3, start.length());
                Check.fault("rule " + start + word, 3, 5 + start.length());
            }
            for (String word : new String[] {"coat", "here", "took", "far", "worth", "crowd", "minute"}) {
                expr(start + word + (start.startsWith("(") && start.length() == 1 ? ")" : ""), 0, -1);
            }
        }
        for (String start : new String[] {"1+", "1-", "1*", "1/", "1<", "1="}) {
            expr(start + "not 1", 3, 2);
        }
        for (String behind : new String[] {"1", "coat", "(1)", "1+1", "1<1"}) {
            expr(behind + " moat", 1, behind.length() + 1);
            expr(behind + " not 1", 1, behind.length() + 1);
            expr(behind + " 1", 1, behind.length() + 1);
        }
        expr("1<1<1", 1, 3);
        expr("1=1<1", 1, 3);
        expr("1<1=1", 1, 3);
    }

    private static void notToldAhead() {
        Check.sentence("an AISLE that isn't told ahead");
        inFloor("way 2 0;", 0, -1);
        inFloor("way 3 0;", 3, 4);
        inFloor("way 0 3;", 3, 6);
        inFloor("way 0 3;aisle 1 1;", 3, 6);
        inFloor("aisle 1 1;way 0 3;", 0, -1);
        inFloor("aisle 1 1;way 4 4;", 3, 14);
        inFloor("mirror 0 2;", 0, -1);
        inFloor("mirror 3 0;", 3, 7);
        inFloor("mirror 0 3;", 3, 9);
        inFloor("lapse 1 0 0 0 3;aisle 1 1;", 3, 14);
        inFloor("lapse 1 0 0 3;", 3, 12);
        inFloor("way 9999 0;", 3, 4);
        inFloor("mirror 0 9999;", 3, 9);
        Check.fault("way 0 0;", 3, 4);
        Check.fault("mirror 0 0;", 3, 7);
        Check.fault("lapse 1 0 0 0;", 3, 12);
        Check.fault("lapse 1 0 0 0;aisle 1 1;", 3, 12);
        Check.fault("aisle 1 1;lapse 1 0 0 0;", 0, -1);
    }

    private static void secondAisle() {
        Check.sentence("4 the second AISLE of a WAY, a MIRROR that is the first one");
        inFloor("way 0 0;", 4, 6);
        inFloor("way 2 0002;", 4, 6);
        inFloor("mirror 0 0;", 4, 9);
        inFloor("mirror 2 2", 4, 9);
        inFloor("way 1 1 1 1;", 4, 6);
        Check.sentence("or that was told with it (of a WAY either way round)");
        inFloor("way 0 1;", 4, 6);
        inFloor("way 1 0;", 4, 6);
        inFloor("way 2 1;", 4, 6);
        inFloor("way 1 2;", 4, 6);
        inFloor("way 0 2;", 0, -1);
        inFloor("way 2 0;way 0 2;", 4, 14);
        inFloor("mirror 0 1;", 0, -1);
        inFloor("mirror 0 1;mirror 1 0;mirror 0 2;", 0, -1);
        inFloor("mirror 0 1;mirror 0 1;", 4, 20);
        inFloor("mirror 0 1;mirror 1 0;mirror 1 0;", 4, 31);
    }

    private static void secondSetting() {
        Check.sentence("5 a second 'notice', 'false', 'stops'");
        String[] words = {"notice", "false", "stops"};
        for (String first : words) {
            for (String second : words) {
                for (String third : words) {
                    String two = first + " 1;" + second + " 1;";
                    int place = first.equals(second) ? first.length() + 3 : two.length();
                    boolean again = first.equals(second) || first.equals(third) || second.equals(third);
                    Check.fault(two + third + " 1;", again ? 5 : 0, again ? place : -1);
                }
            }
            Check.fault(first + " 1;" + first, 5, first.length() + 3);
            Check.fault(first + " 1; " + first + " #", 5, first.length() + 4);
            Check.fault(first + " 1;" + first + " 10000;", 5, first.length() + 3);
            Check.fault(first + " 1;" + first + "s 1;", 1, first.length() + 3);
        }
    }

    private static void routeStep() {
        Check.sentence("6 an AISLE of a ROUTE that isn't the same as, or joined to, the one ahead, or a first one but 0");
        inFloor("lapse 1 0 0 1;", 6, 12);
        inFloor("lapse 1 0 0 2 1 0;", 6, 12);
        inFloor("lapse 1 0 0 0 2;", 6, 14);
        inFloor("lapse 1 0 0 0 0 2;", 6, 16);
        inFloor("lapse 1 0 0 0 1 2 0;", 6, 18);
        inFloor("lapse 1 0 0 0 1 2 2 1 1 0 0;", 0, -1);
        inFloor("lapse 1 0 0 0 2;way 0 2;", 6, 14);
        inFloor("way 0 2;lapse 1 0 0 0 2;", 0, -1);
        inFloor("mirror 0 2;lapse 1 0 0 0 2;", 6, 25);
        inFloor("lapse 1 0 0 0 1 2 2 1 1 0 0 0 0 2;", 6, 32);
    }

    private static void takesMore() {
        Check.sentence("TAKES that is more than the ROUTE has AISLES (at the TOKEN behind the ROUTE, ahead of 1)");
        for (int aisles = 1; aisles <= 12; aisles++) {
            for (int takes = 0; takes <= 12; takes++) {
                String line = "lapse 1 " + takes + " 0" + " 0".repeat(aisles);
                int behind = line.length();
                boolean more = takes > aisles;
                inFloor(line + ";", more ? 6 : 0, more ? behind : -1);
                inFloor(line, more ? 6 : 1, behind);
                inFloor(line + "  ", more ? 6 : 1, behind + 2);
                for (String token : new String[] {"x", "#", "(", "-", "\u00ff", "lapse"}) {
                    inFloor(line + " " + token + ";", more ? 6 : 1, behind + 1);
                }
            }
        }
        inFloor("lapse 1 3 0 0 2;", 6, 14);
        inFloor("lapse 1 3 0 0 7;", 3, 14);
        inFloor("lapse 1 3 0 0 10000;", 2, 14);
    }
}
