/** Promises 27 to 35: signs, a gate, what is missing, the game, weeks. */
public final class TellTest {
    private static final String ROW = "aisle 10 0;aisle 50 3;aisle 20 5;aisle 100 1;way 0 1;way 1 2;way 2 3;";
    private static final int[] NO = {-1, 100, Integer.MAX_VALUE, Integer.MIN_VALUE};

    public static void main(String[] args) {
        signs();
        line();
        gate();
        missing();
        fewest();
        forget();
        game();
        weeks();
        Check.end("TellTest");
    }

    private static void signs() {
        ShopEyes x = new ShopEyes();
        Rows.odds("none told", x, 0, 0, 1);
        Check.due("sign", 1, x.sign(9, false));
        Rows.odds("none had", x, 9, 0, 1);
        Check.due("sign", 2, x.sign(9, true));
        Check.due("sign", 3, x.sign(0, true));
        Check.due("sign", 4, x.sign(5, true));
        Rows.odds("all", x, 0, 3, 4);
        Rows.odds("some", x, 1, 2, 3);
        Rows.odds("so much or more", x, 5, 2, 3);
        Rows.odds("lowest terms", x, 6, 1, 2);
        for (int coat : new int[] {-1, 10, Integer.MAX_VALUE, Integer.MIN_VALUE}) {
            Check.due("sign " + coat, -1, x.sign(coat, true));
            Check.due("odds " + coat, Check.ILLEGAL, () -> x.odds(coat, 0));
            Check.due("odds 0 " + coat, Check.NO_ELEMENT, () -> x.odds(0, coat));
            Check.due("odds, both " + coat, Check.NO_ELEMENT, () -> x.odds(coat, coat));
        }
        Check.due("odds 0 2", Check.NO_ELEMENT, () -> x.odds(0, 2));
        for (int i = 5; i <= 12; i++) {
            Check.due("sign", i, x.sign(0, false));
        }
        Check.due("there are 12", -1, x.sign(0, false));
        Check.due("told", 12, x.count(13));
        Check.due("refused", 5, x.count(18));
        Rows.odds("lowest terms", x, 0, 1, 4);
    }

    private static void line() {
        ShopEyes x = new ShopEyes();
        Check.due("none", -1, x.line());
        x.sign(0, true);
        Check.due("from 0 on", 0, x.line());
        x.sign(0, false);
        Check.due("as many is not more", -1, x.line());
        x.sign(9, true);
        Check.due("all together", 0, x.line());
        x.sign(8, false);
        Check.due("from 9 on", 9, x.line());
        x.sign(9, false);
        Check.due("none", -1, x.line());
        x.sign(3, true);
        x.sign(3, true);
        Check.due("from 0 on", 0, x.line());
        x.sign(2, false);
        Check.due("from 1 on, where none is told", 3, x.line());
    }

    private static void gate() {
        Rows.gate(1, 6, 9, 1, 9, 14);
        Rows.gate(1, 99, 10, 10, 1, 99);
        Rows.gate(99, 99, 10, 10, 1, 1);
        Rows.gate(99, 99, 0, 10, 0, 1);
        Rows.gate(0, 1, 10, 10, 0, 1);
        Rows.gate(0, 1, 10, 0, 0, 1);
        Rows.gate(5, 10, 0, 0, 0, 1);
        Rows.gate(2, 5, 8, 4, 4, 7);
        ShopEyes x = new ShopEyes();
        for (int no : NO) {
            Check.due("have " + no, Check.ILLEGAL, () -> x.gate(no, 99, 1, 1, 0));
            Check.due("all " + no, Check.ILLEGAL, () -> x.gate(0, no, 1, 1, 0));
            Check.due("beeps " + no, Check.ILLEGAL, () -> x.gate(1, 2, no, 1, 0));
            Check.due("wrongly " + no, Check.ILLEGAL, () -> x.gate(1, 2, 1, no, 1));
            Check.due("what " + no, Check.NO_ELEMENT, () -> x.gate(1, 2, 1, 1, no));
            Check.due("what ahead " + no, Check.NO_ELEMENT, () -> x.gate(no, no, no, no, no));
        }
        Check.due("more than there are", Check.ILLEGAL, () -> x.gate(3, 2, 1, 1, 0));
        Check.due("none there", Check.ILLEGAL, () -> x.gate(0, 0, 1, 1, 0));
        Check.due("11 tenths", Check.ILLEGAL, () -> x.gate(1, 2, 11, 1, 0));
        Check.due("11 tenths", Check.ILLEGAL, () -> x.gate(1, 2, 1, 11, 0));
        Check.due("what 2", Check.NO_ELEMENT, () -> x.gate(1, 2, 1, 1, 2));
        Check.due("not counted", 0, x.count(18));
    }

    private static void missing() {
        ShopEyes x = Check.shop(ROW + "buyer 2 0 0 0 1 0;thief 3 0 0 0 1 2 3;staff 60 0 0 0;");
        Check.due("miss", 1, x.miss(1, 2));
        Check.due("miss", 2, x.miss(1, 3));
        Check.due("miss", 3, x.miss(1, 60));
        Check.due("miss", 4, x.miss(0, 2));
        Check.due("miss", 5, x.miss(0, 60));
        Check.due("miss", 6, x.miss(3, 5));
        Check.due("miss", 7, x.miss(3, 6));
        int[] due = {0, 1, 3, 1, 7, 0, 2};
        for (int i = 0; i < due.length; i++) {
            Check.due("who " + i, due[i], x.who(i));
        }
        for (int no : new int[] {-1, 4, Integer.MAX_VALUE, Integer.MIN_VALUE}) {
            Check.due("miss in " + no, -1, x.miss(no, 1));
        }
        for (int no : new int[] {-1, 0, 61, Integer.MAX_VALUE, Integer.MIN_VALUE}) {
            Check.due("miss behind " + no, -1, x.miss(0, no));
        }
        Check.due("the eighth", 8, x.miss(2, 9));
        Check.due("the ninth", -1, x.miss(2, 9));
        Check.due("refused", 10, x.count(18));
        for (int no : new int[] {-2, 8, Integer.MAX_VALUE, Integer.MIN_VALUE}) {
            Check.due("who " + no, Check.NO_ELEMENT, () -> x.who(no));
        }
    }

    private static void fewest() {
        ShopEyes x = Check.shop("aisle 0 0;aisle 0 0;aisle 0 0;aisle 0 0;way 0 1;way 0 2;way 0 3;"
            + "buyer 1 0 0 0 3 0;buyer 1 0 0 0 1 0;buyer 1 0 0 0 2 0;buyer 1 0 0 0 1 0 2;buyer 1 0 0 0 2 0 1;");
        Check.due("nothing is missing", 0, x.who(-1));
        x.miss(1, 60);
        Check.due("of as few the least", 2, x.who(-1));
        x.miss(2, 60);
        Check.due("one for both", 8, x.who(-1));
        x.miss(3, 60);
        Check.due("two for three", 9, x.who(-1));
        x.miss(1, 1);
        Check.due("nobody can", 0, x.who(3));
        Check.due("none", -1, x.who(-1));
        ShopEyes first = Check.shop(ROW + "buyer 1 0 0 0;");
        first.miss(0, 1);
        Check.due("in the first minute", 1, first.who(0));
        StringBuilder text = new StringBuilder("aisle 0 0;".repeat(9));
        for (int a = 1; a < 9; a++) {
            text.append("way 0 ").append(a).append(";lapse 1 0 0 0 ").append(a).append(';');
        }
        ShopEyes all = Check.shop(text.toString());
        for (int a = 1; a < 9; a++) {
            all.miss(a, 2);
        }
        Check.due("all of them", 255, all.who(-1));
        ShopEyes nobody = Check.shop("aisle 1 1;");
        Check.due("nothing is missing", 0, nobody.who(-1));
        nobody.miss(0, 60);
        Check.due("none", -1, nobody.who(-1));
    }

    private static void forget() {
        ShopEyes x = Check.shop(ROW);
        x.sign(1, true);
        x.miss(1, 1);
        x.sign(11, true);
        x.forget();
        Check.due("signs", 0, x.count(13));
        Check.due("missing", 0, x.count(14));
        Check.due("refused calls stay", 1, x.count(18));
        Check.due("no act", 0, x.count(12));
        Check.due("none", Check.NO_ELEMENT, () -> x.who(0));
        Check.due("line", -1, x.line());
        Check.due("first again", 1, x.sign(2, false));
        Check.due("odds", 0, x.odds(0, 0));
    }

    private static void game() {
        Rows.game("no aisles", new ShopEyes(), 0, -1, -1, -1);
        Rows.game("one aisle", Check.shop("aisle 9 9;false 19;"), 1, 0, 0, -1);
        Rows.game("nothing to pay", Check.shop("aisle 9 9;false 9;"), 1, 0, 0, 0);
        ShopEyes x = Check.shop(ROW);
        Rows.game("none rests", x, 0, -1, 3, 50);
        x.mirror(3, 1);
        Rows.game("a mirror", x, 0, -1, 3, 20);
        x.mirror(3, 2);
        x.mirror(3, 0);
        Rows.game("all are seen", x, 4, 3, 3, -40);
        Rows.game("worth nothing", Check.shop("aisle 0 0;aisle 0 0;false 0;"), 4, 0, 0, 0);
        ShopEyes seen = Check.shop("aisle 5 0;aisle 5 0;aisle 5 0;mirror 0 1;mirror 1 0;false 10;");
        Rows.game("of like ones the least", seen, 0, -1, 0, 5);
        for (int no : new int[] {-1, 4, Integer.MAX_VALUE, Integer.MIN_VALUE}) {
            Check.due("game " + no, Check.NO_ELEMENT, () -> x.game(no));
        }
    }

    /** From seed 1 the draws of 2 are 0 0 1, 1 1 1, 0 1 0 ..: bits 16 to 30 of 1103527590, 2524885223, 662824084 .. */
    private static void weeks() {
        Rows.weeks("nobody", new ShopEyes(), 1, 30, 0, 0, 0);
        String people = "lapse 1 2 0 0 1 0;lapse 1 3 0 0 1 2 1 0;lapse 1 4 0 0 1 2 3 2 1 0;";
        ShopEyes x = Check.shop(ROW + people);
        Rows.weeks("no days", x, 1, 0, 0, 0, 0);
        int[] worth = {50, 20, 100};
        int[] left = {3, 5, 1};
        int seed = 1;
        int sum = 0;
        int most = 0;
        int things = 0;
        for (int n = 1; n <= 30; n++) {
            int cost = 0;
            for (int p = 0; p < 3; p++) {
                seed = seed * 1103515245 + 12345;
                if (Math.floorMod(seed, 131072) >= 65536 && left[p] > 0) {
                    left[p]--;
                    cost += worth[p];
                    things++;
                }
            }
            sum += cost;
            most = Math.max(most, cost);
            Rows.weeks("some days", x, 1, n, sum, most, things);
        }
        Rows.weeks("all is gone", x, 1, 30, 350, most, 9);
        Rows.weeks("seed below 0", Check.shop("aisle 7 9;lapse 1 1 0 0;"), -1, 1, drawn(-1) * 7, drawn(-1) * 7, drawn(-1));
        for (int no : new int[] {-1, 31, Integer.MAX_VALUE, Integer.MIN_VALUE}) {
            Check.due("weeks of " + no, Check.ILLEGAL, () -> x.weeks(1, no, 0));
            Check.due("weeks what " + no, Check.NO_ELEMENT, () -> x.weeks(1, 1, no));
            Check.due("weeks, both " + no, Check.NO_ELEMENT, () -> x.weeks(1, no, no));
        }
        Check.due("weeks what 3", Check.NO_ELEMENT, () -> x.weeks(1, 1, 3));
    }

    private static int drawn(int seed) {
        return seed * 1103515245 + 12345 >>> 16 & 1;
    }
}
