/** The edges of SIGNS, A GATE, MISSING, A GAME and WEEKS (part 4, promises 27 to 35). */
public final class TellEdgesTest {
    private static final String ROW = "aisle 10 9;aisle 50 9;aisle 20 9;way 0 1;way 1 2;";
    private static final int[] FAR_OFF = {-2, 100, 1 << 16, 1 << 30, Integer.MAX_VALUE, Integer.MIN_VALUE};

    public static void main(String[] args) {
        twelveSigns();
        coats();
        soMuchOrMore();
        lowestTerms();
        oddsWrong();
        lineAtItsEnds();
        lineTogether();
        gate();
        gateNoneBeeps();
        gateWrong();
        eightMissing();
        missWrong();
        upToTheMinute();
        fewest();
        fewestOfLikeOnes();
        fewestNone();
        whoWrong();
        forget();
        gameWithout();
        gameSeen();
        gameFalse();
        gameRests();
        safest();
        draws();
        weeksLeft();
        weeksEnds();
        weeksWrong();
        Check.end("TellEdgesTest");
    }

    private static void twelveSigns() {
        Check.sentence("SIGNS: told of who were stopped (at most 12)");
        ShopEyes x = new ShopEyes();
        for (int i = 1; i <= 12; i++) {
            Check.due("sign", i, x.sign(i % 10, i % 2 == 0));
        }
        for (int i = 1; i <= 3; i++) {
            Check.due("the thirteenth", -1, x.sign(0, true));
            Check.due("told", 12, x.count(13));
            Check.due("STATUS 2", i, x.count(18));
        }
        Rows.odds("signs", x, 0, 1, 2);
        Check.due("full, and no COAT: one call is refused once", -1, x.sign(10, true));
        Check.due("STATUS 2", 4, x.count(18));
        x.forget();
        Check.due("room again", 1, x.sign(0, true));
        Check.due("in a shop without anybody", 2, x.sign(0, true));
    }

    private static void coats() {
        Check.sentence("NONE (STATUS 2): there are 12, not 0 to 9");
        ShopEyes x = new ShopEyes();
        Check.due("0", 1, x.sign(0, true));
        Check.due("9", 2, x.sign(9, false));
        Check.due("10", -1, x.sign(10, true));
        Check.due("-1", -1, x.sign(-1, true));
        for (int coat : FAR_OFF) {
            Check.due("sign " + coat, -1, x.sign(coat, false));
        }
        Check.due("told", 2, x.count(13));
        Check.due("STATUS 2", 2 + FAR_OFF.length, x.count(18));
        Check.due("STATUS 1", 0, x.count(17));
        Rows.odds("signs", x, 0, 1, 2);
        Rows.odds("signs", x, 9, 0, 1);
    }

    private static void soMuchOrMore() {
        Check.sentence("of those told with a COAT of so much or more how many had");
        ShopEyes x = new ShopEyes();
        for (int coat = 0; coat < 10; coat++) {
            x.sign(coat, coat == 9 || coat == 4);
        }
        for (int coat = 0; coat < 10; coat++) {
            int had = coat <= 4 ? 2 : 1;
            int by = (10 - coat) % had == 0 ? had : 1;
            Rows.odds("signs", x, coat, had / by, (10 - coat) / by);
        }
    }

    private static void lowestTerms() {
        Check.sentence("(a fraction in lowest terms; 0 by 1 without)");
        Rows.odds("signs", new ShopEyes(), 0, 0, 1);
        Rows.odds("signs", new ShopEyes(), 9, 0, 1);
        for (int all = 1; all <= 12; all++) {
            for (int had = 0; had <= all; had++) {
                ShopEyes x = new ShopEyes();
                for (int i = 0; i < all; i++) {
                    x.sign(5, i < had);
                }
                int[] due = Model.lowest(had, all);
                Rows.odds("signs", x, 0, due[0], due[1]);
                Rows.odds("signs", x, 5, due[0], due[1]);
                Rows.odds("signs", x, 6, 0, 1);
            }
        }
        ShopEyes six = new ShopEyes();
        for (int i = 0; i < 12; i++) {
            six.sign(1, i < 8);
        }
        Rows.odds("signs", six, 1, 2, 3);
        ShopEyes none = new ShopEyes();
        none.sign(3, false);
        none.sign(3, false);
        Rows.odds("signs", none, 3, 0, 1);
    }

    private static void oddsWrong() {
        Check.sentence("NoSuchElementException: another what. IllegalArgumentException (behind that): not 0 to 9");
        ShopEyes x = new ShopEyes();
        x.sign(5, true);
        Check.due("COAT 10", Check.ILLEGAL, () -> x.odds(10, 0));
        Check.due("COAT -1", Check.ILLEGAL, () -> x.odds(-1, 1));
        Check.due("what 2", Check.NO_ELEMENT, () -> x.odds(0, 2));
        Check.due("what -1", Check.NO_ELEMENT, () -> x.odds(9, -1));
        for (int no : FAR_OFF) {
            Check.due("COAT " + no, Check.ILLEGAL, () -> x.odds(no, 1));
            Check.due("what " + no, Check.NO_ELEMENT, () -> x.odds(5, no));
            Check.due("what comes first", Check.NO_ELEMENT, () -> x.odds(no, no));
            Check.due("what comes first", Check.NO_ELEMENT, () -> x.odds(10, no));
            Check.due("what comes first", Check.NO_ELEMENT, () -> x.odds(no, 2));
        }
        Check.due("not counted", 0, x.count(18));
    }

    private static void lineAtItsEnds() {
        Check.sentence("THE LINE: the least COAT (0 to 9) from which on more had than hadn't");
        Check.due("nobody told", -1, new ShopEyes().line());
        for (int coat = 0; coat < 10; coat++) {
            ShopEyes x = new ShopEyes();
            x.sign(coat, true);
            Check.due("had alone", 0, x.line());
            x.sign(coat, false);
            Check.due("as many", -1, x.line());
            x.sign(coat, true);
            Check.due("one more", 0, x.line());
            ShopEyes below = new ShopEyes();
            below.sign(coat, true);
            if (coat > 0) {
                below.sign(coat - 1, false);
                Check.due("from " + coat + " on", coat, below.line());
                below.sign(0, false);
                Check.due("from " + coat + " on", coat, below.line());
            }
            ShopEyes none = new ShopEyes();
            none.sign(coat, false);
            Check.due("hadn't alone", -1, none.line());
        }
    }

    private static void lineTogether() {
        Check.sentence("that is, of all from it on, together; none");
        ShopEyes x = new ShopEyes();
        x.sign(2, true);
        x.sign(5, false);
        x.sign(8, true);
        Check.due("two of three", 0, x.line());
        x.sign(1, false);
        Check.due("two of three from 2 on", 2, x.line());
        x.sign(9, false);
        Check.due("one of two from 8 on, one of three from 5 on", -1, x.line());
        x.sign(2, true);
        Check.due("three of five", 2, x.line());
        x.sign(0, true);
        Check.due("four of seven", 0, x.line());
        x.sign(0, false);
        Check.due("as many from 0 on, three of five from 2 on", 2, x.line());
    }

    private static void gate() {
        Check.sentence("how likely one who beeps has, as a fraction in lowest terms");
        Rows.gate(1, 2, 10, 10, 1, 2);
        Rows.gate(99, 99, 10, 10, 1, 1);
        Rows.gate(99, 99, 1, 0, 1, 1);
        Rows.gate(1, 1, 10, 0, 1, 1);
        Rows.gate(98, 99, 10, 10, 98, 99);
        Rows.gate(1, 99, 1, 10, 1, 981);
        Rows.gate(1, 99, 10, 1, 5, 54);
        Rows.gate(50, 99, 7, 3, 50, 71);
        Rows.gate(0, 1, 10, 10, 0, 1);
        Rows.gate(0, 99, 0, 10, 0, 1);
        for (int have = 0; have <= 99; have += 9) {
            for (int beeps = 0; beeps <= 10; beeps += 5) {
                for (int wrongly = 0; wrongly <= 10; wrongly += 2) {
                    int[] due = Model.lowest(have * beeps, have * beeps + (99 - have) * wrongly);
                    Rows.gate(have, 99, beeps, wrongly, due[0], due[1]);
                }
            }
        }
    }

    private static void gateNoneBeeps() {
        Check.sentence("(0 by 1, if none beeps)");
        Rows.gate(5, 9, 0, 0, 0, 1);
        Rows.gate(0, 1, 10, 0, 0, 1);
        Rows.gate(0, 99, 10, 0, 0, 1);
        Rows.gate(99, 99, 0, 10, 0, 1);
        Rows.gate(1, 1, 0, 0, 0, 1);
        Rows.gate(5, 9, 0, 1, 0, 1);
    }

    private static void gateWrong() {
        Check.sentence("IllegalArgumentException (behind that): tenths, how many have (more than there are too), there are");
        ShopEyes x = new ShopEyes();
        int[][] wrong = {{1, 2, 11, 0}, {1, 2, -1, 0}, {1, 2, 0, 11}, {1, 2, 0, -1}, {3, 2, 1, 1}, {-1, 2, 1, 1},
            {0, 0, 1, 1}, {0, -1, 1, 1}, {0, 100, 1, 1}, {100, 100, 1, 1}, {99, 100, 1, 1}, {100, 99, 1, 1}, {2, 1, 1, 1}};
        for (int[] one : wrong) {
            for (int what = 0; what < 2; what++) {
                int part = what;
                Check.due("gate", Check.ILLEGAL, () -> x.gate(one[0], one[1], one[2], one[3], part));
            }
            for (int what : new int[] {-1, 2, 100, Integer.MAX_VALUE, Integer.MIN_VALUE}) {
                Check.due("what comes first", Check.NO_ELEMENT, () -> x.gate(one[0], one[1], one[2], one[3], what));
                Check.due("what alone", Check.NO_ELEMENT, () -> x.gate(1, 2, 3, 4, what));
            }
        }
        for (int no : FAR_OFF) {
            Check.due("have", Check.ILLEGAL, () -> x.gate(no, 99, 1, 1, 0));
            Check.due("all", Check.ILLEGAL, () -> x.gate(0, no, 1, 1, 0));
            Check.due("tenths", Check.ILLEGAL, () -> x.gate(1, 2, no, 1, 0));
            Check.due("tenths", Check.ILLEGAL, () -> x.gate(1, 2, 1, no, 0));
            Check.due("all of them", Check.ILLEGAL, () -> x.gate(no, no, no, no, 0));
        }
        Check.due("not counted", 0, x.count(17) + x.count(18));
    }

    private static void eightMissing() {
        Check.sentence("MISSING (at most 8): in an AISLE, behind a minute (1 to 60), a thing");
        ShopEyes x = Check.shop("aisle 1 0;".repeat(10));
        for (int i = 1; i <= 8; i++) {
            Check.due("miss", i, x.miss(i + 1, i == 8 ? 60 : i));
        }
        for (int i = 1; i <= 3; i++) {
            Check.due("the ninth", -1, x.miss(0, 1));
            Check.due("told", 8, x.count(14));
            Check.due("STATUS 2", i, x.count(18));
        }
        Check.due("the eighth", 0, x.who(7));
        Check.due("no ninth", Check.NO_ELEMENT, () -> x.who(8));
        x.forget();
        Check.due("room again", 1, x.miss(0, 1));
        Check.due("the same once more", 2, x.miss(0, 1));
    }

    private static void missWrong() {
        Check.sentence("NONE (STATUS 2): there are 8, no such AISLE, MINUTE");
        ShopEyes x = Check.shop(ROW);
        Check.due("the first", 1, x.miss(0, 1));
        Check.due("the last", 2, x.miss(2, 60));
        Check.due("MINUTE 0", -1, x.miss(0, 0));
        Check.due("MINUTE 61", -1, x.miss(0, 61));
        Check.due("AISLE 3", -1, x.miss(3, 1));
        Check.due("AISLE -1", -1, x.miss(-1, 1));
        Check.due("MINUTE -1", -1, x.miss(0, -1));
        Check.due("both", -1, x.miss(3, 61));
        for (int no : FAR_OFF) {
            Check.due("AISLE " + no, -1, x.miss(no, 1));
            Check.due("MINUTE " + no, -1, x.miss(0, no));
        }
        Check.due("told", 2, x.count(14));
        Check.due("STATUS 2", 6 + 2 * FAR_OFF.length, x.count(18));
        Check.due("STATUS 1", 0, x.count(17));
        ShopEyes none = new ShopEyes();
        Check.due("no AISLES", -1, none.miss(0, 1));
        Check.due("STATUS 2", 1, none.count(18));
    }

    private static void upToTheMinute() {
        Check.sentence("WHO CAN HAVE IT: those who have been in that AISLE in some minute up to it");
        ShopEyes x = Check.shop(ROW + "buyer 5 0 0 0 1 0;thief 7 0 0 0 1 2;lapse 59 0 0 0 1;staff 60 0 0 0;");
        int[][] due = {{1, 5, 0}, {1, 6, 1}, {1, 7, 1}, {1, 8, 3}, {1, 59, 3}, {1, 60, 7}};
        for (int i = 0; i < due.length; i++) {
            x.miss(due[i][0], due[i][1]);
            Check.due("in AISLE 1 up to " + due[i][1], due[i][2], x.who(i));
        }
        x.forget();
        int[][] door = {{0, 4, 0}, {0, 5, 1}, {0, 6, 1}, {0, 7, 3}, {0, 58, 3}, {0, 59, 7}, {0, 60, 15}, {2, 8, 0}};
        for (int i = 0; i < door.length; i++) {
            x.miss(door[i][0], door[i][1]);
            Check.due("in AISLE " + door[i][0] + " up to " + door[i][1], door[i][2], x.who(i));
        }
        ShopEyes first = Check.shop(ROW + "buyer 1 0 0 0;");
        first.miss(0, 1);
        Check.due("in MINUTE 1", 1, first.who(0));
        first.stock(0, 0);
        first.watch(3, 0);
        Check.due("whatever is watched, and left", 1, first.who(0));
    }

    private static void fewest() {
        Check.sentence("THE FEWEST of PEOPLE of whom each MISSING thing one can have (each any number)");
        StringBuilder row = new StringBuilder("aisle 0 0;".repeat(9));
        for (int a = 1; a < 9; a++) {
            row.append("way 0 ").append(a).append(";lapse 1 0 0 0 ").append(a).append(';');
        }
        ShopEyes x = Check.shop(row.toString());
        Check.due("nothing is missing", 0, x.who(-1));
        for (int a = 1; a < 9; a++) {
            x.miss(a, 60);
            Check.due("one more", (1 << a) - 1, x.who(-1));
        }
        ShopEyes one = Check.shop(row.toString().replace("lapse 1 0 0 0 8;", "lapse 1 0 0 0 8 0 7 0 6 0 5;"));
        for (int a = 5; a < 9; a++) {
            one.miss(a, 60);
            one.miss(a, 60);
        }
        Check.due("one for eight", 128, one.who(-1));
    }

    private static void fewestOfLikeOnes() {
        Check.sentence("of as few the least as bits");
        ShopEyes x = Check.shop(ROW + "lapse 9 0 0 0;lapse 1 0 0 0 1;lapse 1 0 0 0 1;lapse 3 0 0 0 1 2;lapse 1 0 0 0 1 2;");
        x.miss(1, 60);
        Check.due("the least of four", 2, x.who(-1));
        x.miss(2, 60);
        Check.due("one for both, the least of two", 8, x.who(-1));
        x.miss(2, 3);
        Check.due("one who came in time", 16, x.who(-1));
        ShopEyes pairs = Check.shop("aisle 0 0;aisle 0 0;aisle 0 0;way 0 1;way 0 2;"
            + "lapse 1 0 0 0 2;lapse 1 0 0 0 1;lapse 1 0 0 0 2;lapse 1 0 0 0 1;");
        pairs.miss(1, 9);
        pairs.miss(2, 9);
        Check.due("the least of four pairs", 3, pairs.who(-1));
        ShopEyes fewer = Check.shop("aisle 0 0;aisle 0 0;aisle 0 0;way 0 1;way 0 2;"
            + "lapse 1 0 0 0 2;lapse 1 0 0 0 1;lapse 1 0 0 0 2 0 1;");
        fewer.miss(1, 9);
        fewer.miss(2, 9);
        Check.due("fewer come ahead of less as bits", 4, fewer.who(-1));
    }

    private static void fewestNone() {
        Check.sentence("NONE: none");
        ShopEyes x = Check.shop(ROW + "lapse 5 0 0 0;");
        x.miss(0, 5);
        Check.due("he can", 1, x.who(-1));
        x.miss(0, 4);
        Check.due("nobody can have the second", -1, x.who(-1));
        Check.due("nobody", 0, x.who(1));
        ShopEyes nobody = Check.shop(ROW);
        Check.due("nothing is missing", 0, nobody.who(-1));
        nobody.miss(0, 60);
        Check.due("no PEOPLE", -1, nobody.who(-1));
        Check.due("no shop", 0, new ShopEyes().who(-1));
    }

    private static void whoWrong() {
        Check.sentence("NoSuchElementException: there is none such");
        ShopEyes x = Check.shop(ROW + "lapse 1 0 0 0;");
        Check.due("none is told", Check.NO_ELEMENT, () -> x.who(0));
        x.miss(0, 1);
        Check.due("the first", 1, x.who(0));
        Check.due("no second", Check.NO_ELEMENT, () -> x.who(1));
        for (int i : FAR_OFF) {
            Check.due("who " + i, Check.NO_ELEMENT, () -> x.who(i));
        }
    }

    private static void forget() {
        Check.sentence("SIGNS and MISSING are forgotten");
        ShopEyes x = Check.shop(ROW);
        for (int round = 0; round < 3; round++) {
            Check.due("sign", 1, x.sign(9, true));
            Check.due("miss", 1, x.miss(1, 1));
            x.sign(10, true);
            x.forget();
            Check.due("SIGNS", 0, x.count(13));
            Check.due("MISSING", 0, x.count(14));
            Check.due("STATUS stays", round + 1, x.count(18));
            Check.due("no act", 0, x.count(12));
            Rows.odds("signs", x, 0, 0, 1);
            Check.due("no LINE", -1, x.line());
            Check.due("none", Check.NO_ELEMENT, () -> x.who(0));
            x.forget();
        }
        x.forget();
        Check.due("nothing to forget", 0, x.count(13) + x.count(14));
    }

    private static void gameWithout() {
        Check.sentence("NONE of 2, 3: there are no AISLES; NONE: none rests");
        Rows.game("no shop", new ShopEyes(), 0, -1, -1, -1);
        Rows.game("no AISLES", Check.shop("false 9;rule 1;"), 0, -1, -1, -1);
        Rows.game("one", Check.shop("aisle 999 0;"), 1, 0, 0, -40);
        Rows.game("two", Check.shop("aisle 5 0;aisle 5 0;"), 0, -1, 0, 5);
        Check.sentence("NoSuchElementException: another what");
        ShopEyes x = Check.shop(ROW);
        for (int what : new int[] {-1, 4, -2, 100, Integer.MAX_VALUE, Integer.MIN_VALUE}) {
            Check.due("game " + what, Check.NO_ELEMENT, () -> x.game(what));
            Check.due("game " + what, Check.NO_ELEMENT, () -> new ShopEyes().game(what));
        }
    }

    private static void gameSeen() {
        Check.sentence("WORTH of his is the thief's, if it isn't SEEN from the DETECTIVE's");
        ShopEyes x = Check.shop("aisle 1 0;aisle 2 0;aisle 4 0;");
        Rows.game("each sees his own", x, 0, -1, 2, 2);
        x.mirror(0, 2);
        Rows.game("0 sees 2", x, 0, -1, 0, 2);
        x.mirror(0, 1);
        Rows.game("0 sees all: each AISLE of the thief rests", x, 3, 0, 0, -40);
        x.undo();
        x.mirror(1, 2);
        Rows.game("1 sees 2, too", x, 0, -1, 1, 1);
        x.mirror(2, 1);
        x.mirror(1, 0);
        Rows.game("1 sees all", x, 3, 1, 1, -40);
        ShopEyes far = Check.shop("aisle 9 0;".repeat(10) + "mirror 9 0;mirror 9 1;mirror 9 2;mirror 9 3;mirror 9 4;mirror 9 5;");
        Rows.game("ten", far, 0, -1, 0, 9);
        ShopEyes last = Check.shop("aisle 1 0;".repeat(9) + "aisle 9 0;");
        Rows.game("the last is watched", last, 0, -1, 9, 1);
    }

    private static void gameFalse() {
        Check.sentence("else he pays FALSE by 10, cut down");
        int[][] due = {{0, 0}, {9, 0}, {10, -1}, {19, -1}, {20, -2}, {400, -40}, {989, -98}, {990, -99}, {999, -99}};
        for (int[] one : due) {
            Rows.game("FALSE " + one[0], Check.shop("aisle 7 0;false " + one[0] + ";"), 1, 0, 0, one[1]);
        }
    }

    private static void gameRests() {
        Check.sentence("A couple RESTS, if neither gains more by another AISLE: how many; the first");
        Rows.game("as much is not more", Check.shop("aisle 0 0;aisle 0 0;false 9;"), 4, 0, 0, 0);
        Rows.game("all but the second", Check.shop("aisle 0 0;aisle 5 0;false 9;"), 2, 1, 1, 0);
        Rows.game("all but the first", Check.shop("aisle 5 0;aisle 0 0;false 9;"), 2, 0, 0, 0);
        Rows.game("to pay is less than nothing", Check.shop("aisle 0 0;aisle 0 0;false 10;"), 0, -1, 0, 0);
        ShopEyes two = Check.shop("aisle 0 0;aisle 0 0;false 10;mirror 1 0;");
        Rows.game("where all is seen", two, 2, 1, 1, -1);
        Rows.game("ten that are worth nothing", Check.shop("aisle 0 9;".repeat(10) + "false 0;"), 100, 0, 0, 0);
        Rows.game("the thief alone would go to 0", Check.shop("aisle 5 0;aisle 0 0;mirror 1 0;false 9;mirror 0 1;"), 4, 0, 0, 0);
    }

    private static void safest() {
        Check.sentence("SAFEST: the AISLE of the DETECTIVE by which the most that a thief can gain is least (of like ones the least), that most");
        for (int a = 0; a < 10; a++) {
            ShopEyes x = Check.shop("aisle 3 0;".repeat(a) + "aisle 4 0;" + "aisle 3 0;".repeat(9 - a));
            Check.due("SAFEST", a, x.game(2));
            Check.due("that most", 3, x.game(3));
        }
        Check.due("of like ones the least", 0, Check.shop("aisle 3 0;".repeat(10)).game(2));
        Check.due("two of the most", 0, Check.shop("aisle 3 0;aisle 4 0;aisle 4 0;").game(2));
        Check.due("that most", 4, Check.shop("aisle 3 0;aisle 4 0;aisle 4 0;").game(3));
        ShopEyes one = Check.shop("aisle 3 0;aisle 4 0;aisle 4 0;mirror 2 1;mirror 1 2;");
        Check.due("of like ones the least", 1, one.game(2));
        Check.due("that most", 3, one.game(3));
    }

    private static void draws() {
        Check.sentence("A seed becomes itself times 1103515245 and 12345 (an int that wraps); a DRAW of n is its bits 16 to 30 MOD n then");
        ShopEyes one = Check.shop("aisle 7 9;lapse 1 1 0 0;");
        int[] seeds = {0, 1, -1, 2, 65536, 12345, Integer.MAX_VALUE, Integer.MIN_VALUE, -65536, 1 << 30, 77777777};
        for (int seed : seeds) {
            long wrapped = (seed * 1103515245L + 12345L) % 4294967296L;
            long bits = (wrapped + 4294967296L) % 4294967296L / 65536 % 32768;
            int comes = (int) (bits % 2);
            Rows.weeks("one DAY", one, seed, 1, 7 * comes, 7 * comes, comes);
        }
        Rows.weeks("12345 is 0 by 65536: he doesn't come", one, 0, 1, 0, 0, 0);
        Rows.weeks("1103527590 is 16838 by 65536: nor then", one, 1, 1, 0, 0, 0);
        // 1103527590 16838, -1770082073 5758, 662824084 10113: the third one comes.
        ShopEyes three = Check.shop("aisle 1 9;aisle 2 9;aisle 4 9;way 0 1;way 0 2;lapse 1 1 0 0;lapse 1 2 0 0 1 0;lapse 1 2 0 0 2 0;");
        Rows.weeks("for each of PEOPLE, in order", three, 1, 1, 4, 4, 1);
        Check.sentence("0 he doesn't come on that DAY");
        long drawn = 1;
        int[] came = new int[30];
        for (int d = 0; d < 30; d++) {
            for (int p = 0; p < 3; p++) {
                drawn = (drawn * 1103515245L + 12345L) & 4294967295L;
                came[d] |= (int) (drawn / 65536 % 2) << p;
            }
        }
        ShopEyes many = Check.shop("aisle 1 99;aisle 2 99;aisle 4 99;way 0 1;way 0 2;lapse 1 1 0 0;lapse 1 2 0 0 1 0;lapse 1 2 0 0 2 0;");
        int sum = 0;
        int most = 0;
        int things = 0;
        for (int n = 1; n <= 30; n++) {
            sum += came[n - 1];
            most = Math.max(most, came[n - 1]);
            things += Integer.bitCount(came[n - 1]);
            Rows.weeks("what came", many, 1, n, sum, most, things);
        }
    }

    private static void weeksLeft() {
        Check.sentence("n DAYS (0 to 30), each with STOCK as it is left: .. COST of all, the most on one, THINGS that are LOST");
        ShopEyes x = Check.shop("aisle 7 3;" + "lapse 1 1 0 0;".repeat(8));
        Rows.weeks("three are there", x, 5, 30, 21, x.weeks(5, 30, 1), 3);
        Check.due("as it was", 3, x.aisle(0, 1));
        x.days(1);
        Rows.weeks("none is there", x, 5, 30, 0, 0, 0);
        Check.due("no DAY more", 1, x.count(11));
        ShopEyes paid = Check.shop("aisle 7 9;buyer 1 1 0 0;");
        Rows.weeks("what is paid isn't LOST", paid, 5, 30, 0, 0, 0);
        ShopEyes wrongly = Check.shop("aisle 7 99;aisle 7 99;way 0 1;stops 2;false 5;buyer 1 2 0 0 1 0;");
        wrongly.watch(3, 1);
        int days = wrongly.weeks(1, 30, 0) / 5;
        Check.due("on some DAYS", true, days > 5 && days < 25);
        Rows.weeks("FALSE is COST, too", wrongly, 1, 30, 5 * days, 5, 0);
        ShopEyes caught = Check.shop("aisle 7 1;lapse 1 1 0 0;");
        caught.watch(3, 0);
        Rows.weeks("CAUGHT", caught, 1, 30, 0, 0, 0);
        ShopEyes most = Check.shop("aisle 999 99;" + "lapse 1 1 0 0;".repeat(8));
        Check.due("all that is there", 999 * most.weeks(3, 30, 2), most.weeks(3, 30, 0));
        Check.due("a full DAY at most", true, most.weeks(3, 30, 1) <= 7992 && most.weeks(3, 30, 1) > 3000);
    }

    private static void weeksEnds() {
        Check.sentence("n DAYS (0 to 30)");
        ShopEyes x = Check.shop("aisle 7 99;" + "lapse 1 1 0 0;".repeat(8));
        Rows.weeks("no DAYS", x, 5, 0, 0, 0, 0);
        int before = 0;
        for (int n = 1; n <= 30; n++) {
            int sum = x.weeks(5, n, 0);
            Check.due("a DAY more", true, sum >= before);
            before = sum;
        }
        Check.due("thirty", 7 * x.weeks(5, 30, 2), x.weeks(5, 30, 0));
        Rows.weeks("nobody", Check.shop("aisle 7 9;"), 5, 30, 0, 0, 0);
        Rows.weeks("no shop", new ShopEyes(), 5, 30, 0, 0, 0);
    }

    private static void weeksWrong() {
        Check.sentence("NoSuchElementException: another what. IllegalArgumentException (behind that): n");
        ShopEyes x = Check.shop("aisle 7 9;lapse 1 1 0 0;");
        Check.due("n 31", Check.ILLEGAL, () -> x.weeks(1, 31, 0));
        Check.due("n -1", Check.ILLEGAL, () -> x.weeks(1, -1, 2));
        Check.due("what 3", Check.NO_ELEMENT, () -> x.weeks(1, 0, 3));
        Check.due("what -1", Check.NO_ELEMENT, () -> x.weeks(1, 30, -1));
        for (int no : FAR_OFF) {
            Check.due("n " + no, Check.ILLEGAL, () -> x.weeks(no, no, 1));
            Check.due("what " + no, Check.NO_ELEMENT, () -> x.weeks(1, 1, no));
            Check.due("what comes first", Check.NO_ELEMENT, () -> x.weeks(1, no, no));
            Check.due("what comes first", Check.NO_ELEMENT, () -> x.weeks(1, 31, no));
            Check.due("what comes first", Check.NO_ELEMENT, () -> x.weeks(1, no, 3));
        }
        Check.due("not counted", 0, x.count(17) + x.count(18));
    }
}
