/** Promises 1 to 9: the tape, TEXTS and their FAULTS, and what a SHOP is told to be. */
public final class TextTest {
    private static final String FLOOR = "aisle 7 2;aisle 50 3;aisle 20 5;way 0 1;way 1 2;";

    public static void main(String[] args) {
        newObject();
        tape();
        told();
        tokens();
        tokensEndWithTheFirstBytes();
        oneShopBehindAnother();
        aFaultLeavesAllElse();
        lineFaults();
        tooMany();
        routeFaults();
        ruleFaults();
        Check.end("TextTest");
    }

    private static void newObject() {
        ShopEyes x = new ShopEyes();
        int[] due = {0, 0, 0, 0, 0, 3, 400, 1, 0, 0, 0, 0, 0, 0, 0, 0, 0, 0, 0};
        for (int what = 0; what < due.length; what++) {
            Check.due("new count " + what, due[what], x.count(what));
        }
        Check.due("count 19", Check.NO_ELEMENT, () -> x.count(19));
        Check.due("count -1", Check.NO_ELEMENT, () -> x.count(-1));
        Check.due("new fault", -1, x.fault());
        Check.due("new aisle", Check.NO_ELEMENT, () -> x.aisle(0, 0));
        Check.due("new person", Check.NO_ELEMENT, () -> x.person(0, 0));
        Check.due("new route", Check.NO_ELEMENT, () -> x.route(0, 0));
        Check.due("new far", Check.NO_ELEMENT, () -> x.far(0, 0));
        Check.due("new eyes", -1, x.eyes(60));
        Check.due("new where", Check.NO_ELEMENT, () -> x.where(0, 1));
        Check.due("new laid", Check.NO_ELEMENT, () -> x.laid(0));
    }

    private static void tape() {
        ShopEyes x = new ShopEyes();
        for (int i = 1; i <= 35; i++) {
            Check.due("feed " + i, 20 * i, x.feed(0x20202020, 0x20202020, 0x0a0a0a0a, 0x20202020, 0x20202020));
        }
        Check.due("feed 36", -1, x.feed(0, 0, 0, 0, 0));
        Check.due("700 bytes", 700, x.count(15));
        Check.due("701", Check.ILLEGAL, () -> x.shop(701));
        Check.due("below 0", Check.ILLEGAL, () -> x.shop(-1));
        Check.due("nothing changed", 700, x.count(15));
        Check.due("blanks alone", 0, x.shop(700));
        Check.due("empty then", 0, x.count(15));
        Check.due("no longer there", Check.ILLEGAL, () -> x.shop(1));
        Check.due("no bytes", 0, x.shop(0));
        Check.feed(x, "aisle 1 2;aisle 3 4;");
        Check.due("the first bytes alone", 0, x.shop(10));
        Check.due("one aisle", 1, x.count(0));
        Check.due("all of the tape is gone", 0, x.count(15));
        Check.due("high bytes come first", 20, x.feed(0x61697300 | 'l', 0x65203120, 0x323b2020, -1, 0x80000000));
        Check.due("a byte above 127 is none", 1, x.shop(20));
        Check.due("at", 12, x.fault());
    }

    private static void told() {
        ShopEyes x = Check.shop("aisle 7 2;aisle 999 99;aisle 20 5;aisle 0 0;way 0 1;way 2 1;mirror 1 0;mirror 0 1;"
            + "mirror 1 3;staff 60 0 9 0;thief 1 4 0 0 0 1 2;notice 9;false 0;stops 2;rule 1;rule 2;");
        int[] due = {4, 2, 3, 2, 2, 9, 0, 2, 1, 0, 0, 0, 0, 0, 0, 0, 0, 0, 0};
        for (int what = 0; what < due.length; what++) {
            Check.due("count " + what, due[what], x.count(what));
        }
        int[][] aisles = {{7, 2, 2, 2}, {999, 99, 5, 9}, {20, 5, 2, 0}, {0, 0, 0, 0}};
        for (int a = 0; a < 4; a++) {
            for (int what = 0; what < 4; what++) {
                Check.due("aisle " + a + " " + what, aisles[a][what], x.aisle(a, what));
            }
        }
        Check.due("aisle 0 4", Check.NO_ELEMENT, () -> x.aisle(0, 4));
        Check.due("aisle 0 -1", Check.NO_ELEMENT, () -> x.aisle(0, -1));
        Check.due("aisle 4", Check.NO_ELEMENT, () -> x.aisle(4, 0));
        Check.due("aisle -1", Check.NO_ELEMENT, () -> x.aisle(-1, 0));
        int[][] people = {{3, 60, 0, 9, 1}, {1, 1, 4, 0, 4}};
        for (int p = 0; p < 2; p++) {
            for (int what = 0; what < 5; what++) {
                Check.due("person " + p + " " + what, people[p][what], x.person(p, what));
            }
        }
        Check.due("person 0 5", Check.NO_ELEMENT, () -> x.person(0, 5));
        Check.due("person 0 -1", Check.NO_ELEMENT, () -> x.person(0, -1));
        Check.due("person 2", Check.NO_ELEMENT, () -> x.person(2, 0));
        Check.due("person -1", Check.NO_ELEMENT, () -> x.person(-1, 0));
        int[] route = {0, 0, 1, 2};
        for (int i = 0; i < 4; i++) {
            Check.due("route " + i, route[i], x.route(1, i));
        }
        Check.due("route 4", Check.NO_ELEMENT, () -> x.route(1, 4));
        Check.due("route -1", Check.NO_ELEMENT, () -> x.route(1, -1));
        Check.due("route of nobody", Check.NO_ELEMENT, () -> x.route(2, 0));
        int[][] far = {{0, 1, 2, -1}, {1, 0, 1, -1}, {2, 1, 0, -1}, {-1, -1, -1, 0}};
        for (int a = 0; a < 4; a++) {
            for (int b = 0; b < 4; b++) {
                Check.due("far " + a + " " + b, far[a][b], x.far(a, b));
            }
        }
        Check.due("far 0 4", Check.NO_ELEMENT, () -> x.far(0, 4));
        Check.due("far 4 0", Check.NO_ELEMENT, () -> x.far(4, 0));
        Check.due("sorts", 2, Check.shop(FLOOR + "lapse 1 0 0 0;").person(0, 0));
        Check.due("sorts", 0, Check.shop(FLOOR + "buyer 1 0 0 0;").person(0, 0));
    }

    private static void tokens() {
        Check.fault("", 0, -1);
        Check.fault("aisle1 2;aisle\n0003 04 ;", 0, -1);
        Check.fault("aisle 00001 2;", 2, 6);
        Check.fault("aisle 1 2;\n\n  ", 0, -1);
        Check.fault("aisle 1 2;\t", 1, 10);
        Check.fault("aisle 1\r2;", 1, 7);
        Check.fault("Aisle 1 2;", 1, 0);
        Check.fault("aisleX 1 2;", 1, 5);
        Check.fault("aisles 1 2;", 1, 0);
        Check.fault("ais le 1 2;", 1, 0);
        Check.fault("xisle 1 2;", 1, 0);
        Check.fault("aislz 1 2;", 1, 0);
        Check.fault("aisle 1 2;; ", 1, 10);
        Check.fault("aisle 1 2", 1, 9);
        Check.fault("aisle 1 2  ", 1, 11);
        Check.fault("aisle ", 1, 6);
        Check.fault("1", 1, 0);
        Check.fault("x", 1, 0);
    }

    private static void tokensEndWithTheFirstBytes() {
        ShopEyes x = new ShopEyes();
        String text = "aisle 1 22;rule coats;";
        int[][] due = {{9, 1, 9}, {10, 1, 10}, {11, 0, -1}, {13, 1, 11}, {15, 1, 15}, {20, 1, 20}, {21, 3, 16}, {22, 3, 16}};
        for (int[] one : due) {
            Check.feed(x, text);
            Check.due("the first " + one[0], one[1], x.shop(one[0]));
            Check.due("place in the first " + one[0], one[2], x.fault());
        }
        Check.due("of the third", 22, x.aisle(0, 1));
    }

    private static void oneShopBehindAnother() {
        ShopEyes x = new ShopEyes();
        String large = FLOOR + "lapse 1 3 3 0 1 2 1 0;thief 2 1 9 0 0;rule " + "coat+".repeat(90) + "1;rule 9;mirror 0 2;";
        String small = FLOOR + "lapse 3 2 3 0 1 0;rule 0-1;";
        for (int i = 0; i < 20; i++) {
            Check.feed(x, large);
            Check.due("large", 0, x.shop(large.length()));
            Check.due("follows the other one", 0, x.eyes(3));
            Check.due("the second rule", true, x.watch(1, 1));
            Check.due("follows the first by it", 1, x.eyes(2));
            Check.feed(x, small);
            Check.due("small", 0, x.shop(small.length()));
            Check.due("follows nobody", 0, x.eyes(4));
            Check.due("one", 1, x.count(3));
            Check.due("the second one is gone", Check.NO_ELEMENT, () -> x.route(1, 0));
            Check.due("the mirror is gone", 0, x.aisle(0, 3));
            Check.due("the first one is another", 3, x.person(0, 1));
            Check.due("far", 2, x.far(0, 2));
        }
    }

    private static void aFaultLeavesAllElse() {
        String text = FLOOR + "buyer 1 0 0 0;rule 1;mirror 0 1;";
        ShopEyes x = Check.shop(text);
        x.open(true);
        x.sign(3, true);
        x.miss(1, 5);
        x.lay();
        x.image();
        Check.feed(x, "aisle 1 1;way 0 0;");
        Check.due("a fault", 4, x.shop(18));
        Check.due("its place", 16, x.fault());
        Check.due("the tape is empty", 0, x.count(15));
        Check.due("told of it", 1, x.count(16));
        int[] due = {3, 2, 1, 1, 1, 3, 400, 1, 1, 0, 1, 0, 1, 1, 1};
        for (int what = 0; what < due.length; what++) {
            Check.due("stays " + what, due[what], x.count(what));
        }
        Check.due("worth stays", 7, x.aisle(0, 0));
        Check.due("row stays", 0, x.laid(0));
        Check.due("illegal", Check.ILLEGAL, () -> x.shop(1));
        Check.due("place stays", 16, x.fault());
        Check.feed(x, "aisle 9 9;");
        Check.due("anew", 0, x.shop(20));
        Check.due("no place", -1, x.fault());
        int[] anew = {1, 0, 0, 0, 0, 3, 400, 1, 0, 0, 0, 0, 0, 0, 0, 0, 1, 0, 0};
        for (int what = 0; what < anew.length; what++) {
            Check.due("anew " + what, anew[what], x.count(what));
        }
        Check.due("the row is gone", Check.NO_ELEMENT, () -> x.laid(0));
        Check.due("the image is gone", false, x.restore());
        Check.due("acts are gone", -1, x.undo());
    }

    private static void lineFaults() {
        Check.fault("aisle 999 99;", 0, -1);
        Check.fault("aisle 1000 1;", 2, 6);
        Check.fault("aisle 1 100;", 2, 8);
        Check.fault("aisle ;", 1, 6);
        Check.fault("aisle 1;", 1, 7);
        Check.fault("aisle 1 2 3;", 1, 10);
        Check.fault("aisle 1 2 33333;", 1, 10);
        Check.fault("aisle x 2;", 1, 6);
        Check.fault("aisle -1 2;", 1, 6);
        Check.fault("way 0 1;", 3, 4);
        inFloor("way 0 2;", 0, -1);
        inFloor("way 0 3;", 3, 6);
        inFloor("way 3 0;", 3, 4);
        inFloor("way 9999 0;", 3, 4);
        inFloor("way 10000 0;", 2, 4);
        inFloor("way 0 10000;", 2, 6);
        inFloor("way 0 0;", 4, 6);
        inFloor("way 0 1;", 4, 6);
        inFloor("way 1 0;", 4, 6);
        inFloor("way 0;", 1, 5);
        inFloor("way 0 2 1;", 1, 8);
        inFloor("mirror 0 2;mirror 2 0;", 0, -1);
        inFloor("mirror 0 2;mirror 0 2;", 4, 20);
        inFloor("mirror 0 0;", 4, 9);
        inFloor("mirror 0 3;", 3, 9);
        inFloor("mirror 4 3;", 3, 7);
        inFloor("mirror 0 12345;", 2, 9);
        inFloor("mirror a 3;", 1, 7);
        inFloor("notice 0;", 2, 7);
        inFloor("notice 10;", 2, 7);
        inFloor("notice 1;notice 1;", 5, 9);
        inFloor("notice 1;false 0;stops 0;", 0, -1);
        inFloor("false 999;false 1;", 5, 10);
        inFloor("false 1000;", 2, 6);
        inFloor("stops 2;stops", 5, 8);
        inFloor("stops 3;", 2, 6);
        inFloor("stops;", 1, 5);
        inFloor("stops 1 1;", 1, 8);
    }

    private static void tooMany() {
        String ten = "aisle 1 1;".repeat(10);
        Check.fault(ten, 0, -1);
        Check.fault(ten + "aisle 1 1;", 2, 100);
        Check.fault(ten + " aisle", 2, 101);
        StringBuilder ways = new StringBuilder(ten);
        for (int i = 0; i < 16; i++) {
            ways.append("way ").append(i / 9).append(' ').append(i < 9 ? i + 1 : i - 7).append(';');
        }
        Check.fault(ways.toString(), 0, -1);
        Check.fault(ways + "way 8 9;", 2, ways.length());
        String mirrors = "mirror 0 1;mirror 0 2;mirror 1 0;mirror 1 2;mirror 2 0;mirror 2 1;";
        inFloor(mirrors, 0, -1);
        inFloor(mirrors + "mirror 9 9;", 2, mirrors.length());
        String eight = "buyer 1 0 0 0;lapse 1 0 0 0;".repeat(4);
        inFloor(eight, 0, -1);
        inFloor(eight + "thief 1 0 0 0;", 2, eight.length());
        inFloor("rule 1;".repeat(4), 0, -1);
        inFloor("rule 1;".repeat(4) + "rule", 2, 28);
    }

    private static void routeFaults() {
        inFloor("thief 60 12 9 0 1 2 2 2 2 2 2 2 2 1 0;", 0, -1);
        inFloor("thief 0 0 0 0;", 2, 6);
        inFloor("thief 61 0 0 0;", 2, 6);
        inFloor("thief 1 0 10 0;", 2, 10);
        inFloor("thief 1 0 0;", 1, 11);
        inFloor("thief 1 3 0;", 1, 11);
        inFloor("thief 1 0;", 1, 9);
        inFloor("thief 1 0 0 1;", 6, 12);
        inFloor("thief 1 0 0 3;", 3, 12);
        inFloor("thief 1 0 0 0 2;", 6, 14);
        inFloor("thief 1 0 0 0 1 3;", 3, 16);
        inFloor("thief 1 0 0 0 1 12345;", 2, 16);
        inFloor("thief 1 0 0 0 1 1 2 1 0 0 1 2 2 2 2;", 0, -1);
        inFloor("thief 1 0 0 0 1 1 2 1 0 0 1 2 2 2 2 2;", 2, 36);
        inFloor("thief 1 0 0 0 1 1 2 1 0 0 1 2 2 2 2 7;", 2, 36);
        inFloor("thief 1 0 0 0 1 1 2 1 0 0 1 2 2 2 2 0", 2, 36);
        inFloor("thief 1 2 0 0;", 6, 13);
        inFloor("thief 1 2 0 0", 6, 13);
        inFloor("thief 1 2 0 0 x", 6, 14);
        inFloor("thief 1 2 0 0 #", 6, 14);
        inFloor("thief 1 1 0 0 #", 1, 14);
        inFloor("thief 1 1 0 0 x", 1, 14);
        inFloor("thief 1 9 0 0 2;", 6, 14);
        inFloor("thief 1 11 0 0 1 1 2 1 0 0 1 2 2 2;", 0, -1);
        inFloor("thief 1 12 0 0 1 1 2 1 0 0 1 2 2 2;", 6, 34);
        takesFaults();
        Check.fault("buyer 1 0 0 0;", 3, 12);
        Check.fault("aisle 1 1;aisle 1 1;buyer 1 0 0 0 1;way 0 1;", 6, 34);
    }

    /** A ROUTE has 12 AISLES at most, so TAKES above it is too much where it stands. */
    private static void takesFaults() {
        inFloor("thief 1 12 0 0 1 1 2 1 0 0 1 2 2 2 2;", 0, -1);
        inFloor("thief 1 12 0 0;", 6, 14);
        inFloor("thief 1 0012 0 0;", 6, 16);
        inFloor("thief 1 12;", 1, 10);
        inFloor("thief 1 13 0 0 1 1 2 1 0 0 1 2 2 2 2;", 2, 8);
        inFloor("thief 1 13 0 0;", 2, 8);
        inFloor("thief 1 13 x", 2, 8);
        inFloor("thief 12 21;", 2, 9);
        inFloor("lapse 1 99", 2, 8);
        inFloor("buyer 1 9999 10 7;", 2, 8);
        inFloor("staff 61 13 0 0;", 2, 6);
        inFloor("thief 1 12345 0 0;", 2, 8);
        inFloor("thief 1 x 0 0;", 1, 8);
    }

    private static void ruleFaults() {
        rule("coat*10-far", 0, -1);
        rule("not not not not not not 1", 0, -1);
        rule("not not not not not not not 1", 2, 24);
        rule("not not not not not not(not 1)", 0, -1);
        rule("1 and not not not not not not 1 or not 1", 0, -1);
        rule("(((((1)))))", 0, -1);
        rule("((((((1))))))", 2, 6);
        rule("((((((foo))))))", 2, 6);
        rule("((((((not 1))))))", 2, 6);
        rule("(((((((", 2, 6);
        rule("((((((12345", 2, 6);
        rule("((((((+", 1, 6);
        rule("(((((()", 1, 6);
        rule("((((((#", 1, 6);
        rule("((((((", 1, 7);
        rule("1+((((((1", 2, 8);
        rule("(((((1)))))+(((((1)))))", 0, -1);
        rule("", 1, 0);
        rule("1 2", 1, 2);
        rule("1 22222", 1, 2);
        rule("12345", 2, 0);
        rule("1+12345", 2, 2);
        rule("9999", 0, -1);
        rule("foo", 3, 0);
        rule("coats", 3, 0);
        rule("moat", 3, 0);
        rule("z", 3, 0);
        rule("az", 3, 0);
        rule("aisle", 3, 0);
        rule("1+foo", 3, 2);
        rule("1+not 1", 3, 2);
        rule("1<not 1", 3, 2);
        rule("not foo", 3, 4);
        rule("and 1", 3, 0);
        rule("1 foo", 1, 2);
        rule("1 and or", 3, 6);
        rule("1<2<3", 1, 3);
        rule("1<2=3", 1, 3);
        rule("(1<2)=3", 0, -1);
        rule("not 1<2", 0, -1);
        rule("-1", 1, 0);
        rule("1--1", 1, 2);
        rule("()", 1, 1);
        rule("(1", 1, 2);
        rule("1)", 1, 1);
        rule("(1;", 1, 2);
        rule("1+", 1, 2);
        rule("here took far worth", 1, 5);
        rule("here+took*far/worth<crowd=minute", 1, 25);
    }

    /** A rule's EXPR behind the floor; places count from its first byte. */
    private static void rule(String expr, int fault, int place) {
        String line = "rule " + expr + (expr.equals("((((((") ? " " : ";");
        inFloor(line, fault, place < 0 ? place : place + 5);
    }

    private static void inFloor(String line, int fault, int place) {
        Check.fault(FLOOR + line, fault, place < 0 ? place : place + FLOOR.length());
    }
}
