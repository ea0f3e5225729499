/** The edges of an EXPR (Terms): ints that wrap, what is cut down, what holds, and the VALUES at their ends. */
public final class RuleEdgesTest {
    private static final int MIN = Integer.MIN_VALUE;
    private static final int MAX = Integer.MAX_VALUE;
    private static final int BASE = 8192;
    private static final String TWO = "aisle 0 0;aisle 999 1;way 0 1;";

    public static void main(String[] args) {
        fromTheLeft();
        wraps();
        cutDown();
        byNothing();
        tests();
        whatHolds();
        manyWaiting();
        aboveNothing();
        coat();
        here();
        took();
        far();
        worth();
        crowd();
        minute();
        Check.end("RuleEdgesTest");
    }

    /** An EXPR that gives an int, of NUMBERS of 4 digits alone. */
    private static String number(int n) {
        return "((" + (n >>> 26) + "*" + BASE + "+" + (n >>> 13 & BASE - 1) + ")*" + BASE + "+" + (n & BASE - 1) + ")";
    }

    private static int moved(String rule) {
        return Check.shop(TWO + "lapse 1 0 7 0 1;rule " + rule + ";").eyes(2);
    }

    private static void gives(String expr, int due) {
        Check.due(expr + " is " + due, 1, moved("(" + expr + ")=" + number(due)));
        Check.due(expr + " isn't " + (due ^ 1), 0, moved("(" + expr + ")=" + number(due ^ 1)));
        Check.due(expr + " isn't " + (due ^ MIN), 0, moved("(" + expr + ")=" + number(due ^ MIN)));
    }

    private static void fromTheLeft() {
        Check.sentence("From the left");
        gives("9-5-3", 1);
        gives("9-5+3", 7);
        gives("9-(5-3)", 7);
        gives("80/8/2", 5);
        gives("80/8*2", 20);
        gives("7/2*2", 6);
        gives("7*2/2", 7);
        gives("2+3*4", 14);
        gives("2*3+4", 10);
        gives("(2+3)*4", 20);
        gives("1-2*3-4", -9);
        gives("0 or 1 and 0", 0);
        gives("1 or 1 and 0", 1);
        gives("0 and 1 or 1", 1);
        gives("not 0 and 0", 0);
        gives("not 1=2", 1);
        gives("not 1<2", 0);
        gives("1+1<3", 1);
        gives("3<1+1", 0);
        gives("1+(1<3)", 2);
    }

    private static void wraps() {
        Check.sentence("ints that wrap");
        gives("9999*9999", 9999 * 9999);
        gives("9999*9999*9999", 9999 * 9999 * 9999);
        gives("9999*9999*9999*9999", 9999 * 9999 * 9999 * 9999);
        gives("8192*8192*32", MIN);
        gives("8192*8192*64", 0);
        gives("8192*8192*32-1", MAX);
        gives("0-8192*8192*32", MIN);
        gives("0-1-8192*8192*32", MAX);
        gives(number(MAX) + "+1", MIN);
        gives(number(MAX) + "+" + number(MAX), -2);
        gives(number(MIN) + "+" + number(MIN), 0);
        gives(number(MIN) + "-1", MAX);
        gives("1-" + number(MIN), MIN + 1);
        gives(number(MIN) + "*(0-1)", MIN);
        gives(number(MIN) + "*" + number(MAX), MIN);
        gives(number(65536) + "*" + number(65536), 0);
        gives(number(65536) + "*" + number(32768), MIN);
        gives(number(-1), -1);
    }

    private static void cutDown() {
        Check.sentence("/ cut down to 0");
        gives("7/2", 3);
        gives("(0-7)/2", -3);
        gives("7/(0-2)", -3);
        gives("(0-7)/(0-2)", 3);
        gives("1/2", 0);
        gives("(0-1)/2", 0);
        gives("9998/9999", 0);
        gives("9999/9999", 1);
        gives(number(MIN) + "/(0-1)", MIN);
        gives(number(MIN) + "/1", MIN);
        gives(number(MIN) + "/2", MIN / 2);
        gives(number(MAX) + "/(0-1)", -MAX);
        gives(number(MAX) + "/" + number(MIN), 0);
        gives(number(MIN) + "/" + number(MAX), -1);
        gives(number(MIN) + "/" + number(MIN), 1);
    }

    private static void byNothing() {
        Check.sentence("by 0 gives 0");
        gives("7/0", 0);
        gives("0/0", 0);
        gives("(0-7)/0", 0);
        gives("7/0+3", 3);
        gives("7/(3-3)*9+1", 1);
        gives("7/0/0", 0);
        gives(number(MIN) + "/0", 0);
        gives("7/(1=2)", 0);
    }

    private static void tests() {
        Check.sentence("tests, not, and, or are 1 or 0");
        gives("1<2", 1);
        gives("2<2", 0);
        gives("3<2", 0);
        gives("2=2", 1);
        gives("2=3", 0);
        gives("0-1<0", 1);
        gives(number(MIN) + "<" + number(MAX), 1);
        gives(number(MAX) + "<" + number(MIN), 0);
        gives(number(MIN) + "=" + number(MIN), 1);
        gives("not 0", 1);
        gives("not 1", 0);
        gives("not 9", 0);
        gives("not not 9", 1);
        gives("9 and 8", 1);
        gives("9 or 8", 1);
        gives("0 or 8", 1);
        gives("9 or 0", 1);
        gives("0 or 0", 0);
        gives("9 and 0", 0);
        gives("0 and 9", 0);
        gives("0 and 0", 0);
        gives("9", 9);
        gives("(9)", 9);
        gives("9999", 9999);
        gives("0009", 9);
        gives("not not not not not not 5", 1);
    }

    private static void whatHolds() {
        Check.sentence("what isn't 0 holds");
        gives("0-1 and 1", 1);
        gives("not (0-1)", 0);
        gives("0-1 or 0", 1);
        gives(number(MIN) + " and 1", 1);
        gives(number(MIN) + " or 0", 1);
        gives("not " + number(MIN), 0);
        gives("1-1 or 1/2", 0);
    }

    /** As many parts as can wait for what joins them: five in each EXPR, six EXPRS within one another. */
    private static void manyWaiting() {
        Check.sentence("EXPR: AND ('or' AND)*. AND: NOT ('and' NOT)*. NOT: 'not' NOT | SUM [('<' | '=') SUM]");
        for (int last = 0; last < 3; last++) {
            String row = "" + last;
            for (int i = 0; i < 6; i++) {
                row = "0 or 1 and not not not not not not 2=1+1*" + (i == 0 ? row : "(" + row + ")");
            }
            Check.due(row, last == 1 ? 1 : 0, moved(row));
        }
        String sum = "1";
        for (int i = 0; i < 4; i++) {
            sum = "1+2*(" + sum + ")";
        }
        gives(sum, 31);
        gives("1+".repeat(200) + "1", 201);
        gives("0 or ".repeat(80) + "1", 1);
        gives("1 and ".repeat(80) + "0", 0);
        gives("2*".repeat(31) + "1", MIN);
    }

    private static void aboveNothing() {
        Check.sentence("the one in the shop but staff for whom it gives most, if that is above 0");
        Check.due("1", 1, moved("1"));
        Check.due("0", 0, moved("0"));
        Check.due("below 0", 0, moved("0-1"));
        Check.due("most of all", 1, moved(number(MAX)));
        Check.due("wrapped below 0", 0, moved(number(MAX) + "+1"));
        Check.due("wrapped above 0", 1, moved(number(MIN) + "-1"));
    }

    private static void coat() {
        Check.sentence("'coat'");
        for (int coat = 0; coat < 10; coat += 9) {
            String text = TWO + "lapse 1 0 " + coat + " 0 1;rule coat=";
            Check.due("its own", 1, Check.shop(text + coat + ";").eyes(2));
            Check.due("another", 0, Check.shop(text + (coat + 1) + ";").eyes(2));
        }
        Check.due("a COAT of 0 is nothing to follow", 0, Check.shop(TWO + "lapse 1 0 0 0 1;rule coat;").eyes(60));
    }

    /** One (COAT 1) stays in AISLE 1; another one comes to the door in minute 30, and is followed while the rule holds. */
    private static void here() {
        Check.sentence("'here' (how many minutes one has been in, 1 in the first)");
        ShopEyes x = Check.shop(TWO + "lapse 1 0 1 0 1;lapse 30 0 2 0 0 0;rule 1+(coat=2)*(here=1);");
        Check.due("not yet", 1, x.eyes(29));
        Check.due("in the first", 0, x.eyes(30));
        Check.due("no longer", 1, x.eyes(31));
        ShopEyes last = Check.shop(TWO + "lapse 1 0 1 0 1;rule here=60;");
        Check.due("59", 0, last.eyes(59));
        Check.due("60", 1, last.eyes(60));
        ShopEyes late = Check.shop(TWO + "lapse 59 0 1 0 1;rule here=2;");
        Check.due("the second of two", 1, late.eyes(60));
    }

    /** The one in AISLE 1 is seen in a mirror at the door. */
    private static void took() {
        Check.sentence("'took' (1, if one was seen taking, else 0)");
        String text = TWO + "mirror 0 1;lapse 1 2 1 0 1;rule ";
        Check.due("not in the minute itself", 0, Check.shop(text + "took;").eyes(2));
        Check.due("in the next", 1, Check.shop(text + "took;").eyes(3));
        Check.due("is 1", 1, Check.shop(text + "took=1;").eyes(3));
        Check.due("isn't more", 0, Check.shop(text + "took-1;").eyes(3));
        Check.due("was 0", 1, Check.shop(text + "took=0;").eyes(2));
        Check.due("not seen", 0, Check.shop(text.replace("mirror 0 1;", "") + "took;").eyes(60));
        Check.due("took nothing", 0, Check.shop(text.replace("999 1", "999 0") + "took;").eyes(60));
        String backAgain = TWO + "aisle 0 0;way 0 2;mirror 0 1;mirror 0 2;thief 1 2 1 0 1 0 0 0 0 2;notice 3;rule took*(minute=9);";
        ShopEyes put = Check.shop(backAgain);
        Check.due("he has put it back", -1, put.has(0, 8));
        Check.due("who was seen taking stays that", 1, put.day(5));
        Check.due("followed by it still", 2, Check.shop(backAgain.replace("=9", "=10")).eyes(10));
    }

    private static void far() {
        Check.sentence("'far' (how many WAYS off the DETECTIVE one is; 99 if there is none)");
        StringBuilder row = new StringBuilder("aisle 0 0;".repeat(10));
        StringBuilder route = new StringBuilder(" 0");
        for (int a = 1; a < 10; a++) {
            row.append("way ").append(a - 1).append(' ').append(a).append(';');
            route.append(' ').append(a);
        }
        ShopEyes x = Check.shop(row + "lapse 1 0 1" + route + ";rule far=9;");
        Check.due("8 off", 0, x.eyes(9));
        Check.due("9 off", 1, x.eyes(10));
        Check.due("8 off again", 1, x.eyes(11));
        Check.due("there is always a WAY here", 0, Check.shop(row + "lapse 1 0 1" + route + ";rule far=10 or far=99;").eyes(60));
        String both = TWO + "lapse 1 0 1 0 0 0;lapse 1 0 1 0 1;rule far=0 and minute<3;";
        Check.due("0 off", 0, Check.shop(both).eyes(2));
        Check.due("1 off", 1, Check.shop(both.replace("far=0", "far=1")).eyes(2));
    }

    private static void worth() {
        Check.sentence("'worth' (WORTH where one is)");
        Check.due("the most", 1, moved("worth=999"));
        Check.due("not at the door", 0, moved("worth=0"));
        Check.due("none", 1, Check.shop("aisle 999 0;aisle 0 0;way 0 1;lapse 1 0 7 0 1;rule worth=0;").eyes(2));
    }

    private static void crowd() {
        Check.sentence("'crowd' (how many others are there)");
        String eight = TWO + "staff 1 0 1 0 1;".repeat(4) + "thief 1 0 1 0 1;".repeat(4);
        for (int others = 0; others < 9; others++) {
            Check.due("seven others, not " + others, others == 7 ? 1 : 0, Check.shop(eight + "rule crowd=" + others + ";").eyes(2));
            Check.due("nobody else, not " + others, others == 0 ? 1 : 0, moved("crowd=" + others));
        }
        String apart = TWO + "lapse 1 0 1 0 1;staff 1 0 1 0 0 0;staff 1 0 1 0 0 0;staff 3 0 1 0 1;buyer 1 0 0 0;notice 9;rule ";
        Check.due("those at the door don't count", 1, Check.shop(apart + "crowd=0;").eyes(2));
        Check.due("nor who hasn't come, or has left", 1, Check.shop(apart + "crowd=0 and 2<minute;").eyes(3));
        Check.due("one has come", 1, Check.shop(apart + "crowd=1 and 2<minute;").eyes(4));
        Check.due("the DETECTIVE doesn't count", 0, Check.shop(apart + "crowd=2 and 2<minute or minute=2;").eyes(2) - 1);
    }

    private static void minute() {
        Check.sentence("'minute'");
        for (int minute = 2; minute <= 60; minute++) {
            ShopEyes x = Check.shop(TWO + "lapse 1 0 7 0 1;rule minute=" + minute + ";");
            Check.due("ahead of " + minute, 0, x.eyes(minute - 1));
            Check.due("in " + minute, 1, x.eyes(minute));
        }
        Check.due("never 0", 0, moved("minute=0"));
        Check.due("never 61", 0, Check.shop(TWO + "lapse 1 0 7 0 1;rule minute=61;").eyes(60));
    }
}
