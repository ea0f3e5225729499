/** The edges of what a TEXT may tell (Terms), and of the calls that tell it and look at it (promises 1 to 9). */
public final class TermsEdgesTest {
    private static final String TEN = "aisle 1 1;".repeat(10);
    private static final String[] SORTS = {"buyer", "thief", "lapse", "staff"};
    private static final int[] FAR_OFF = {-2, 100, 1 << 16, 1 << 28, 1 << 30, Integer.MAX_VALUE, Integer.MIN_VALUE};

    public static void main(String[] args) {
        aisles();
        ways();
        mirrors();
        people();
        rules();
        aislesNumbers();
        peoplesNumbers();
        routes();
        settings();
        text();
        bytes();
        words();
        feed();
        shop();
        allAnew();
        fault();
        whats();
        indexes();
        far();
        Check.end("TermsEdgesTest");
    }

    private static void aisles() {
        Check.sentence("AISLES 0 (at the door), 1 .. (at most 10)");
        ShopEyes none = Check.shop("");
        Check.due("no aisles", 0, none.count(0));
        Check.due("not even the one at the door", Check.NO_ELEMENT, () -> none.aisle(0, 0));
        ShopEyes x = Check.shop(TEN);
        Check.due("ten", 10, x.count(0));
        Check.due("the tenth", 1, x.aisle(9, 0));
        Check.due("no eleventh", Check.NO_ELEMENT, () -> x.aisle(10, 0));
        Check.fault(TEN + "aisle 1 1;", 2, 100);
        Check.fault(TEN + "notice 3;aisle", 2, 109);
        Check.fault(TEN + "\n aisle 1000 x", 2, 102);
        Check.fault(TEN + "aisles 1 1;", 1, 100);
    }

    /** Ways 0 1 .. 0 9, then 1 2 .. 1 9. */
    private static String ways(int many) {
        StringBuilder row = new StringBuilder();
        for (int i = 0; i < many; i++) {
            row.append("way ").append(i / 9).append(' ').append(i < 9 ? i + 1 : i - 7).append(';');
        }
        return row.toString();
    }

    private static void ways() {
        Check.sentence("WAYS (at most 16)");
        ShopEyes x = Check.shop(TEN + ways(16));
        Check.due("sixteen", 16, x.count(1));
        Check.due("all but itself", 1022, x.aisle(0, 2));
        Check.due("the sixteenth", 3, x.aisle(8, 2));
        Check.due("no seventeenth", 1, x.aisle(9, 2));
        int end = TEN.length() + ways(16).length();
        Check.fault(TEN + ways(17), 2, end);
        Check.fault(TEN + ways(16) + "way 0 1;", 2, end);
        Check.fault(TEN + ways(16) + " way", 2, end + 1);
        Check.due("no ways", 0, Check.shop(TEN).count(1));
    }

    private static void mirrors() {
        Check.sentence("MIRRORS (at most 6)");
        String six = "mirror 9 0;mirror 9 1;mirror 9 2;mirror 9 3;mirror 9 4;mirror 0 9;";
        ShopEyes x = Check.shop(TEN + six);
        Check.due("six", 6, x.count(2));
        Check.due("five in one", 31, x.aisle(9, 3));
        Check.due("one in the other", 512, x.aisle(0, 3));
        int end = TEN.length() + six.length();
        Check.fault(TEN + six + "mirror 9 5;", 2, end);
        Check.fault(TEN + six + "mirror 9 0;", 2, end);
        Check.fault(TEN + six + "\nmirror", 2, end + 1);
    }

    private static void people() {
        Check.sentence("PEOPLE 0, 1 .. (at most 8)");
        StringBuilder eight = new StringBuilder("aisle 1 1;");
        for (int i = 0; i < 8; i++) {
            eight.append(SORTS[i % 4]).append(" 1 0 ").append(i).append(" 0;");
        }
        ShopEyes x = Check.shop(eight.toString());
        Check.due("eight", 8, x.count(3));
        Check.due("the eighth", 7, x.person(7, 3));
        Check.due("no ninth", Check.NO_ELEMENT, () -> x.person(8, 3));
        for (int sort = 0; sort < 4; sort++) {
            Check.due("SORT " + sort, sort, x.person(4 + sort, 0));
            Check.fault(eight + SORTS[sort] + " 1 0 0 0;", 2, eight.length());
            Check.fault(eight + " " + SORTS[sort], 2, eight.length() + 1);
        }
        Check.due("nobody", 0, Check.shop(TEN).count(3));
    }

    private static void rules() {
        Check.sentence("RULES 0, 1 .. (at most 4)");
        Check.due("four", 4, Check.shop("rule 0;".repeat(4)).count(4));
        Check.fault("rule 0;".repeat(5), 2, 28);
        Check.fault("rule 0;".repeat(4) + "  rule", 2, 30);
        ShopEyes x = Check.shop("aisle 1 1;aisle 1 1;way 0 1;buyer 1 0 0 0 1;" + "rule 0;".repeat(3) + "rule 1;");
        x.watch(1, 3);
        Check.due("follows by the fourth", 1, x.eyes(2));
    }

    /** A NUMBER ahead of and behind which the rest of a TEXT stands: least and most are taken, the next ones aren't. */
    private static void bounds(String ahead, int least, int most, String behind) {
        int at = ahead.length();
        Check.fault(ahead + least + behind, 0, -1);
        Check.fault(ahead + most + behind, 0, -1);
        Check.fault(ahead + String.format("%04d", most) + behind, 0, -1);
        Check.fault(ahead + (most + 1) + behind, 2, at);
        Check.fault(ahead + String.format("%05d", most) + behind, 2, at);
        Check.fault(ahead + "9999" + behind, 2, at);
        Check.fault(ahead + "10000" + behind, 2, at);
        Check.fault(ahead + "4294967296" + behind, 2, at);
        if (least > 0) {
            Check.fault(ahead + (least - 1) + behind, 2, at);
            Check.fault(ahead + "0000" + behind, 2, at);
        }
        Check.fault(ahead + "-1" + behind, 1, at);
        Check.fault(ahead + "x" + behind, 1, at);
        Check.fault(ahead + ";", 1, at);
        Check.fault(ahead, 1, at);
    }

    private static void aislesNumbers() {
        Check.sentence("WORTH of a thing there (0 to 999), STOCK (0 to 99)");
        bounds("aisle ", 0, 999, " 1;");
        bounds("aisle 1 ", 0, 99, ";");
        ShopEyes x = Check.shop("aisle 0 99;aisle 999 0;aisle 0999 0099;");
        int[][] due = {{0, 99}, {999, 0}, {999, 99}};
        for (int a = 0; a < 3; a++) {
            Check.due("WORTH of " + a, due[a][0], x.aisle(a, 0));
            Check.due("STOCK of " + a, due[a][1], x.aisle(a, 1));
        }
    }

    private static void peoplesNumbers() {
        Check.sentence("IN (the minute in which one comes, 1 to 60)");
        bounds("aisle 1 1;lapse ", 1, 60, " 0 0 0;");
        Check.sentence("TAKES (which of the AISLES on one's WAY through, 1 the first; 0 none)");
        bounds("aisle 1 1;lapse 1 ", 0, 12, " 0" + " 0".repeat(12) + ";");
        Check.sentence("COAT (0 to 9)");
        bounds("aisle 1 1;lapse 1 0 ", 0, 9, " 0;");
        ShopEyes x = Check.shop("aisle 1 1;buyer 60 12 9" + " 0".repeat(12) + ";staff 1 0 0 0;");
        int[][] due = {{0, 60, 12, 9, 12}, {3, 1, 0, 0, 1}};
        for (int p = 0; p < 2; p++) {
            for (int what = 0; what < 5; what++) {
                Check.due("person " + p + " " + what, due[p][what], x.person(p, what));
            }
        }
    }

    private static void routes() {
        Check.sentence("a ROUTE (1 to 12 AISLES, the first 0, each the same as or joined to the one ahead)");
        String floor = "aisle 1 1;aisle 1 1;aisle 1 1;way 1 0;";
        int at = floor.length();
        Check.fault(floor + "lapse 1 0 0;", 1, at + 11);
        Check.fault(floor + "lapse 1 0 0", 1, at + 11);
        Check.fault(floor + "lapse 1 0 0 x;", 1, at + 12);
        Check.fault(floor + "lapse 1 0 0 0;", 0, -1);
        Check.fault(floor + "lapse 1 0 0 1;", 6, at + 12);
        Check.fault(floor + "lapse 1 0 0 0 0;", 0, -1);
        Check.fault(floor + "lapse 1 0 0 0 1 1 0 1;", 0, -1);
        Check.fault(floor + "lapse 1 0 0 0 2;", 6, at + 14);
        Check.fault(floor + "lapse 1 0 0 0 1 2;", 6, at + 16);
        Check.fault(floor + "lapse 1 0 0" + " 0".repeat(12) + ";", 0, -1);
        Check.fault(floor + "lapse 1 0 0" + " 0".repeat(13) + ";", 2, at + 36);
        ShopEyes x = Check.shop(floor + "lapse 1 0 0 0;lapse 1 12 0" + " 0 1".repeat(6) + ";");
        Check.due("one", 1, x.person(0, 4));
        Check.due("twelve", 12, x.person(1, 4));
        Check.due("the twelfth", 1, x.route(1, 11));
        Check.due("the first", 0, x.route(1, 0));
    }

    private static void settings() {
        Check.sentence("NOTICE (1 to 9; 3 without)");
        bounds("notice ", 1, 9, ";");
        Check.due("least", 1, Check.shop("notice 1;").count(5));
        Check.due("most", 9, Check.shop("notice 9;").count(5));
        Check.sentence("FALSE (0 to 999; 400 without)");
        bounds("false ", 0, 999, ";");
        Check.due("least", 0, Check.shop("false 0;").count(6));
        Check.due("most", 999, Check.shop("false 999;").count(6));
        Check.sentence("STOPS (0 none, 1 by proof, 2 by sight; 1 without)");
        bounds("stops ", 0, 2, ";");
        Check.due("none", 0, Check.shop("stops 0;").count(7));
        Check.due("by sight", 2, Check.shop("stops 2;").count(7));
        Check.sentence("3 without; 400 without; 1 without");
        ShopEyes x = Check.shop("notice 9;false 9;stops 2;");
        for (int i = 0; i < 3; i++) {
            Check.due("shop without", 0, x.shop(0));
            Check.due("NOTICE", 3, x.count(5));
            Check.due("FALSE", 400, x.count(6));
            Check.due("STOPS", 1, x.count(7));
        }
    }

    private static void text() {
        Check.sentence("A TEXT of at most 700 bytes tells it");
        String sum = "rule " + "1+".repeat(346) + "11;";
        Check.due("its length", 700, sum.length());
        Check.fault(sum, 0, -1);
        String signs = "rule " + "1+".repeat(346) + "1;#";
        Check.fault(signs, 1, 699);
        String open = "rule " + "1+".repeat(347) + "1";
        Check.fault(open, 1, 700);
        String blanks = "aisle 7 2" + " ".repeat(690) + ";";
        ShopEyes x = Check.shop(blanks);
        Check.due("told", 7, x.aisle(0, 0));
        Check.feed(x, blanks);
        Check.due("the last byte is left out", 1, x.shop(699));
        Check.due("where it ends too soon", 699, x.fault());
        String rule = "aisle 0 0;aisle 0 0;way 0 1;lapse 1 0 1 0 1; rule not (" + "1+".repeat(318) + "1=319)-0;";
        Check.due("its length", 700, rule.length());
        Check.due("319 is 319", 0, Check.shop(rule).eyes(2));
        Check.due("319 isn't 318", 1, Check.shop(rule.replace("=319", "=318")).eyes(2));
    }

    /** One byte between two NUMBERS, of which one is enough for neither blanks nor signs. */
    private static void bytes() {
        Check.sentence("blanks (32, 10) between them count for nothing");
        for (int c = 0; c < 256; c++) {
            boolean blank = c == 32 || c == 10;
            boolean digit = c >= '0' && c <= '9';
            Check.fault("aisle 1" + (char) c + "2;", blank ? 0 : 1, blank ? -1 : digit ? 9 : 7);
        }
        Check.sentence("signs ; ( ) + - * / < =");
        for (int c = 0; c < 256; c++) {
            boolean joins = "+-*/<=".indexOf(c) >= 0;
            boolean digit = c >= '0' && c <= '9';
            boolean between = c == 32 || c == 10 || c == ';';
            Check.fault("rule 1" + (char) c + "1;", joins || digit ? 0 : 1, joins || digit ? -1 : between ? 7 : 6);
        }
        Check.sentence("1 a TOKEN that can't stand there, or is none");
        for (int c = 0; c < 256; c++) {
            boolean blank = c == 32 || c == 10;
            Check.fault("" + (char) c, blank ? 0 : 1, blank ? -1 : 0);
        }
    }

    private static void words() {
        Check.sentence("words (a .. z, the longest row)");
        for (int c = 0; c < 256; c++) {
            boolean blank = c == 32 || c == 10;
            boolean letter = c >= 'a' && c <= 'z';
            boolean digit = c >= '0' && c <= '9';
            Check.fault("aisle" + (char) c + " 1 2;", blank ? 0 : 1, blank ? -1 : letter ? 0 : digit ? 9 : 5);
        }
        Check.fault("aisle1 2;aisle 3 4;way0 1;", 0, -1);
        Check.fault("rulenot 1;", 1, 0);
        Check.fault("rule notnot 1;", 3, 5);
        Check.fault("rule not1;", 0, -1);
        Check.fault("rule 1and 1or 1;", 0, -1);
        Check.fault("rule coat coat;", 1, 10);
        Check.sentence("NUMBERS (1 to 4 digits)");
        Check.fault("rule 0;rule 9999;rule 0000;rule 0009;", 0, -1);
        Check.fault("rule 10000;", 2, 5);
        Check.fault("rule 00000;", 2, 5);
        Check.fault("rule 1 0;", 1, 7);
        Check.fault("12345;", 1, 0);
    }

    private static void feed() {
        Check.sentence("Twenty bytes come behind the tape, of each number the highest first");
        String two = "aisle 1 2;mirror 0 0;";
        ShopEyes x = new ShopEyes();
        Check.due("feed", 20, x.feed(0x61697300 | 'l', 0x65203120, 0x323b6d69, 0x72726f72, 0x20302030));
        Check.due("feed behind", 40, x.feed(0x3b202020, 0x20202020, 0x20202020, 0x20202020, 0x20202020));
        Check.due("its fault", 4, x.shop(two.length()));
        Check.due("its place", 19, x.fault());
        ShopEyes signed = new ShopEyes();
        signed.feed(0x203b20ff, 0x80000000, 0, 0, 0);
        Check.due("a sign that can't stand there", 1, signed.shop(20));
        Check.due("its place", 1, signed.fault());
        signed.feed(0x20202020, 0x20202020, 0xffffffff, 0, 0);
        Check.due("a byte of 255", 1, signed.shop(9));
        Check.due("its place", 8, signed.fault());
        Check.sentence("NONE, and none come, if it would have more than 700");
        ShopEyes full = new ShopEyes();
        for (int i = 1; i < 35; i++) {
            full.feed(0x20202020, 0x20202020, 0x20202020, 0x20202020, 0x20202020);
        }
        Check.due("680", 680, full.count(15));
        Check.due("700", 700, full.feed(0x20202020, 0x20202020, 0x20202020, 0x20202020, 0x20202020));
        for (int i = 0; i < 3; i++) {
            Check.due("more", -1, full.feed(0x61616161, 0, 0, 0, 0));
            Check.due("none came", 700, full.count(15));
        }
        Check.due("all blanks", 0, full.shop(700));
        Check.due("room again", 20, full.feed(0, 0, 0, 0, 0));
    }

    private static void shop() {
        Check.sentence("The tape's first n bytes (it is empty then) are a SHOP");
        ShopEyes x = new ShopEyes();
        Check.feed(x, "aisle 1 2;aisle 3 44");
        Check.due("none of its bytes", 0, x.shop(0));
        Check.due("no aisles", 0, x.count(0));
        Check.due("empty", 0, x.count(15));
        Check.feed(x, "aisle 1 2;aisle 3 44");
        Check.due("a fault", 1, x.shop(20));
        Check.due("empty behind a fault, too", 0, x.count(15));
        int[][] cuts = {{9, 1, 9}, {10, 1, 10}, {11, 0, -1}, {14, 1, 11}, {15, 1, 15}, {18, 1, 18}, {21, 0, -1}, {29, 3, 26},
            {30, 1, 30}, {31, 3, 26}, {32, 3, 26}};
        for (int[] one : cuts) {
            ShopEyes cut = new ShopEyes();
            Check.feed(cut, "aisle 7 88;rule 1234;rule coats;");
            Check.due("the first " + one[0], one[1], cut.shop(one[0]));
            Check.due("its place", one[2], cut.fault());
        }
        Check.sentence("IllegalArgumentException: the tape has not so many, n below 0 (nothing changes)");
        Check.feed(x, "aisle 1 2;aisle 3 4;");
        for (int n : new int[] {-1, 21, 40, 700, 701, Integer.MIN_VALUE, Integer.MAX_VALUE}) {
            Check.due("shop " + n, Check.ILLEGAL, () -> x.shop(n));
            Check.due("tape", 20, x.count(15));
            Check.due("place", 20, x.fault());
            Check.due("told of", 1, x.count(16));
        }
        Check.due("all of them", 0, x.shop(20));
        Check.due("two aisles", 2, x.count(0));
        ShopEyes anew = new ShopEyes();
        Check.due("one byte of none", Check.ILLEGAL, () -> anew.shop(1));
        Check.due("none", 0, anew.shop(0));
    }

    /** The second of two like shops, and one that tells less: nothing of those ahead is left. */
    private static void allAnew() {
        Check.sentence("all anew: 0; ACTS, SIGNS, MISSING, rows that are kept, the image are gone");
        String more = "aisle 5 5;aisle 6 6;way 0 1;mirror 0 1;lapse 1 1 1 0 1;thief 2 1 2 0 0 1;rule coat;rule 9;"
            + "notice 9;false 1;stops 2;";
        String less = "aisle 7 7;aisle 8 8;buyer 3 0 0 0;";
        ShopEyes x = Check.shop(more);
        Check.feed(x, more);
        x.shop(more.length());
        x.watch(1, 1);
        x.open(true);
        x.days(3);
        x.sign(1, true);
        x.miss(0, 1);
        x.lay();
        x.image();
        Check.due("he notices", 2, x.day(6));
        Check.feed(x, less);
        Check.due("less", 0, x.shop(less.length()));
        int[] due = {2, 0, 0, 1, 0, 3, 400, 1, 0, 0, 0, 0, 0, 0, 0, 0, 0, 0, 0};
        for (int what = 0; what < due.length; what++) {
            Check.due("count " + what, due[what], x.count(what));
        }
        Check.due("nobody is there who could notice", 0, x.day(6));
        Check.due("not joined", 0, x.aisle(0, 2));
        Check.due("not seen", 0, x.aisle(0, 3));
        Check.due("no way", -1, x.far(0, 1));
        Check.due("stock", 8, x.aisle(1, 1));
        Check.due("nobody else", Check.NO_ELEMENT, () -> x.route(1, 0));
        Check.due("no more aisles", Check.NO_ELEMENT, () -> x.route(0, 1));
        Check.due("no act", -1, x.undo());
        Check.due("no image", false, x.restore());
        Check.due("no row", Check.NO_ELEMENT, () -> x.laid(0));
        Check.due("no sign", 0, x.odds(0, 0));
        Check.due("nothing missing", Check.NO_ELEMENT, () -> x.who(0));
        Check.feed(x, more);
        x.shop(more.length());
        Check.due("RULE 0 again", 0, x.count(9));
        Check.due("a RULE again", 1, x.count(8));
    }

    private static void fault() {
        Check.sentence("The place of the latest shop()'s FAULT; NONE without");
        ShopEyes x = new ShopEyes();
        Check.due("no shop yet", -1, x.fault());
        Check.feed(x, "   x");
        x.shop(4);
        Check.due("the latest", 3, x.fault());
        Check.feed(x, "x");
        x.shop(20);
        Check.due("at 0", 0, x.fault());
        x.image();
        x.restore();
        Check.due("not in the image", 0, x.fault());
        Check.due("not so many", Check.ILLEGAL, () -> x.shop(1));
        Check.due("stays", 0, x.fault());
        x.shop(0);
        Check.due("without", -1, x.fault());
    }

    private static void whats() {
        Check.sentence("NoSuchElementException: another what");
        ShopEyes x = Check.shop("aisle 1 1;aisle 1 1;way 0 1;lapse 1 0 0 0 1;");
        Check.due("count 18", 0, x.count(18));
        Check.due("aisle 1 3", 0, x.aisle(1, 3));
        Check.due("person 0 4", 2, x.person(0, 4));
        Check.due("count 19", Check.NO_ELEMENT, () -> x.count(19));
        Check.due("aisle 1 4", Check.NO_ELEMENT, () -> x.aisle(1, 4));
        Check.due("person 0 5", Check.NO_ELEMENT, () -> x.person(0, 5));
        Check.due("count -1", Check.NO_ELEMENT, () -> x.count(-1));
        Check.due("aisle 1 -1", Check.NO_ELEMENT, () -> x.aisle(1, -1));
        Check.due("person 0 -1", Check.NO_ELEMENT, () -> x.person(0, -1));
        for (int what : FAR_OFF) {
            Check.due("count " + what, Check.NO_ELEMENT, () -> x.count(what));
            Check.due("aisle 1 " + what, Check.NO_ELEMENT, () -> x.aisle(1, what));
            Check.due("person 0 " + what, Check.NO_ELEMENT, () -> x.person(0, what));
        }
    }

    private static void indexes() {
        ShopEyes x = Check.shop("aisle 1 1;aisle 1 1;way 0 1;lapse 1 0 0 0 1;staff 1 0 0 0 1 0;");
        Check.sentence("NoSuchElementException: no such AISLE (as everywhere)");
        Check.due("aisle 2", Check.NO_ELEMENT, () -> x.aisle(2, 0));
        Check.due("aisle -1", Check.NO_ELEMENT, () -> x.aisle(-1, 0));
        for (int a : FAR_OFF) {
            Check.due("aisle " + a, Check.NO_ELEMENT, () -> x.aisle(a, 0));
        }
        Check.sentence("NoSuchElementException: no such one (as everywhere)");
        Check.due("person 2", Check.NO_ELEMENT, () -> x.person(2, 0));
        Check.due("person -1", Check.NO_ELEMENT, () -> x.person(-1, 0));
        for (int p : FAR_OFF) {
            Check.due("person " + p, Check.NO_ELEMENT, () -> x.person(p, 0));
        }
        Check.sentence("The i-th AISLE (0 on) of a ROUTE. NoSuchElementException: also there is none");
        Check.due("the last of a ROUTE", 1, x.route(0, 1));
        Check.due("none behind it", Check.NO_ELEMENT, () -> x.route(0, 2));
        Check.due("another's", Check.NO_ELEMENT, () -> x.route(0, 12));
        Check.due("none ahead of it", Check.NO_ELEMENT, () -> x.route(1, -1));
        Check.due("nobody's", Check.NO_ELEMENT, () -> x.route(2, 0));
        Check.due("nobody's", Check.NO_ELEMENT, () -> x.route(-1, 0));
        for (int i : FAR_OFF) {
            Check.due("route 1 " + i, Check.NO_ELEMENT, () -> x.route(1, i));
            Check.due("route " + i, Check.NO_ELEMENT, () -> x.route(i, 0));
        }
    }

    private static void far() {
        Check.sentence("How many WAYS it is from one AISLE to another one; NONE: there is no way");
        StringBuilder row = new StringBuilder(TEN);
        for (int a = 0; a < 9; a++) {
            row.append("way ").append(a).append(' ').append(a + 1).append(';');
        }
        ShopEyes x = Check.shop(row.toString());
        Check.due("from end to end", 9, x.far(0, 9));
        Check.due("and back", 9, x.far(9, 0));
        Check.due("to itself", 0, x.far(5, 5));
        ShopEyes over = Check.shop(TEN + "way 8 0;way 0 9;way 7 6;");
        Check.due("over the door", 2, over.far(8, 9));
        Check.due("over the door", 2, over.far(9, 8));
        Check.due("no way", -1, over.far(0, 7));
        Check.due("no way", -1, over.far(6, 9));
        Check.due("to itself without ways", 0, over.far(5, 5));
        for (int a : new int[] {-1, 10, 11, 1 << 28, Integer.MAX_VALUE, Integer.MIN_VALUE}) {
            Check.due("far 0 " + a, Check.NO_ELEMENT, () -> x.far(0, a));
            Check.due("far " + a + " 0", Check.NO_ELEMENT, () -> x.far(a, 0));
            Check.due("far " + a + " itself", Check.NO_ELEMENT, () -> x.far(a, a));
        }
    }
}
