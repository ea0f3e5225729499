/** The edges of ACTS, of what undoes them and of AN IMAGE (part 2 and 4, promises 10 to 16, 36 and 37). */
public final class ActEdgesTest {
    private static final String SHOP = "aisle 5 7;aisle 50 3;aisle 20 5;way 0 1;way 1 2;mirror 1 0;"
        + "lapse 2 2 5 0 1 1 0;buyer 3 3 1 0 1 2;rule coat;rule 0;rule 1;stops 0;";
    private static final int[] FAR_OFF = {-2, 32, 33, 100, 1 << 16, 1 << 30, Integer.MAX_VALUE, Integer.MIN_VALUE};

    public static void main(String[] args) {
        atFirst();
        watch();
        whichWithNobody();
        open();
        stops();
        mirror();
        sixMirrors();
        stock();
        days();
        daysLeft();
        alsoOneThatChangesNothing();
        fortyAreKept();
        theLatestAreKept();
        lastOneFirst();
        undoEachKind();
        undoInTenAisles();
        nothingToUndo();
        status();
        image();
        imageKeepsWhatIsTold();
        imageKeepsActs();
        inPlaceOfAnother();
        noImage();
        Check.end("ActEdgesTest");
    }

    private static void atFirst() {
        Check.sentence("At first the WATCH is RULE 0, if there is one, else nobody; HIDDEN");
        Rows.count("with a rule", Check.shop("rule 0;"), 8, 1, 9, 0, 10, 0);
        Rows.count("with four", Check.shop("rule 0;".repeat(4)), 8, 1, 9, 0, 10, 0);
        Rows.count("without", Check.shop("aisle 1 1;lapse 1 1 0 0;"), 8, 0, 9, 0, 10, 0);
        Rows.count("no shop", new ShopEyes(), 8, 0, 9, 0, 10, 0);
        Check.due("nobody", -1, Check.shop("aisle 1 1;lapse 1 1 0 0;").eyes(1));
        Check.due("hidden", false, Check.shop(SHOP).open(false));
    }

    private static void watch() {
        Check.sentence("False (STATUS 1): another how, no such RULE, one, AISLE");
        int[] many = {0, 3, 2, 3};
        for (int how = 1; how <= 3; how++) {
            ShopEyes x = Check.shop(SHOP);
            int by = how;
            Check.due("the first", true, x.watch(how, 0));
            Rows.count("the first", x, 8, how, 9, 0);
            Check.due("the last", true, x.watch(how, many[how] - 1));
            Check.due("behind it", false, x.watch(how, many[how]));
            Check.due("ahead of the first", false, x.watch(how, -1));
            for (int which : FAR_OFF) {
                Check.due("watch " + by + " " + which, false, x.watch(by, which));
            }
            Rows.count("as told last", x, 8, how, 9, many[how] - 1, 12, 2, 17, 10);
        }
        ShopEyes x = Check.shop(SHOP);
        Check.due("how 3", true, x.watch(3, 2));
        Check.due("how 4", false, x.watch(4, 0));
        Check.due("how -1", false, x.watch(-1, 0));
        for (int how : FAR_OFF) {
            Check.due("how " + how, false, x.watch(how, 0));
        }
        Rows.count("as told last", x, 8, 3, 9, 2, 12, 1, 17, 10);
        ShopEyes none = new ShopEyes();
        for (int how = 1; how <= 3; how++) {
            Check.due("there is none", false, none.watch(how, 0));
        }
        Check.due("nobody there is always", true, none.watch(0, 0));
        Rows.count("no shop", none, 8, 0, 9, 0, 12, 1, 17, 3);
    }

    private static void whichWithNobody() {
        Check.sentence("(which counts for nothing with 0)");
        ShopEyes x = Check.shop(SHOP);
        x.watch(2, 1);
        for (int which : FAR_OFF) {
            Check.due("watch 0 " + which, true, x.watch(0, which));
            Rows.count("nobody", x, 8, 0, 9, 0, 17, 0);
        }
        Rows.count("each one is an act", x, 12, 1 + FAR_OFF.length);
        Check.due("nobody watches", -1, x.eyes(1));
    }

    private static void open() {
        Check.sentence("OPEN, or HIDDEN: as it was");
        ShopEyes x = Check.shop(SHOP);
        boolean[] told = {true, true, false, false, true};
        boolean before = false;
        for (boolean one : told) {
            Check.due("open " + one, before, x.open(one));
            Rows.count("open", x, 10, one ? 1 : 0);
            before = one;
        }
        Rows.count("five acts", x, 12, 5, 17, 0);
    }

    private static void stops() {
        Check.sentence("STOPS: as they were. NONE (STATUS 1): not 0 to 2");
        ShopEyes x = Check.shop(SHOP);
        int[] told = {0, 1, 1, 2, 2, 0, 2, 1};
        int before = 0;
        for (int one : told) {
            Check.due("stops " + one, before, x.stops(one));
            before = one;
        }
        Check.due("stops 3", -1, x.stops(3));
        Check.due("stops -1", -1, x.stops(-1));
        for (int stops : FAR_OFF) {
            Check.due("stops " + stops, -1, x.stops(stops));
        }
        Rows.count("as told last", x, 7, 1, 12, 8, 17, 10);
        Check.due("1 of no shop", 1, new ShopEyes().stops(2));
    }

    private static void mirror() {
        Check.sentence("NONE (STATUS 1): there are 6, no such AISLES, both are one, it is there");
        ShopEyes x = Check.shop(SHOP);
        Check.due("as a TEXT told", -1, x.mirror(1, 0));
        Check.due("the other way round", 2, x.mirror(0, 1));
        Check.due("as an act told", -1, x.mirror(0, 1));
        for (int a = 0; a < 3; a++) {
            Check.due("both are one", -1, x.mirror(a, a));
        }
        Check.due("mirror 0 3", -1, x.mirror(0, 3));
        Check.due("mirror 3 0", -1, x.mirror(3, 0));
        Check.due("mirror 0 -1", -1, x.mirror(0, -1));
        Check.due("mirror -1 0", -1, x.mirror(-1, 0));
        for (int a : FAR_OFF) {
            Check.due("mirror 0 " + a, -1, x.mirror(0, a));
            Check.due("mirror " + a + " 0", -1, x.mirror(a, 0));
            Check.due("mirror " + a, -1, x.mirror(a, a));
        }
        Rows.count("two", x, 2, 2, 12, 1, 17, 9 + 3 * FAR_OFF.length);
        Check.due("seen", 2, x.aisle(0, 3));
        Check.due("the last couple", 3, x.mirror(2, 1));
        Check.due("no AISLES", -1, new ShopEyes().mirror(0, 1));
    }

    private static void sixMirrors() {
        Check.sentence("a MIRROR more (at most 6)");
        ShopEyes x = Check.shop("aisle 1 1;".repeat(10) + "mirror 9 0;");
        int[][] five = {{9, 8}, {9, 7}, {0, 9}, {0, 1}, {8, 9}};
        for (int i = 0; i < 5; i++) {
            Check.due("mirror", i + 2, x.mirror(five[i][0], five[i][1]));
        }
        Check.due("the seventh", -1, x.mirror(5, 6));
        Check.due("the seventh", -1, x.mirror(9, 0));
        Check.due("seen", 512 + 2, x.aisle(0, 3));
        Check.due("seen", 1 + 256 + 128, x.aisle(9, 3));
        Check.due("not seen", 0, x.aisle(5, 3));
        Rows.count("six", x, 2, 6, 12, 5, 17, 2);
        x.undo();
        Check.due("room again", 6, x.mirror(5, 6));
        Check.due("no more", -1, x.mirror(6, 5));
        ShopEyes told = Check.shop("aisle 1 1;".repeat(3) + "mirror 0 1;mirror 0 2;mirror 1 0;mirror 1 2;mirror 2 0;mirror 2 1;");
        Check.due("a TEXT told six", -1, told.mirror(0, 1));
        Rows.count("six", told, 2, 6, 12, 0, 17, 1);
    }

    private static void stock() {
        Check.sentence("STOCK: as it was. NONE (STATUS 1): not 0 to 99");
        ShopEyes x = Check.shop(SHOP);
        int[] first = {7, 3, 5};
        for (int a = 0; a < 3; a++) {
            Check.due("as told", first[a], x.stock(a, 99));
            Check.due("the most", 99, x.stock(a, 0));
            Check.due("the least", 0, x.stock(a, a + 1));
            Check.due("100", -1, x.stock(a, 100));
            Check.due("-1", -1, x.stock(a, -1));
            Check.due("as it is", a + 1, x.aisle(a, 1));
        }
        for (int stock : new int[] {101, 256, 1 << 16, Integer.MAX_VALUE, Integer.MIN_VALUE}) {
            Check.due("stock " + stock, -1, x.stock(1, stock));
        }
        Rows.count("acts", x, 12, 9, 17, 11);
        Check.sentence("not counted where an exception tells it");
        for (int a : new int[] {-1, 3, 9, 10, 1 << 30, Integer.MAX_VALUE, Integer.MIN_VALUE}) {
            Check.due("no AISLE " + a, Check.NO_ELEMENT, () -> x.stock(a, 1));
            Check.due("nor STOCK", Check.NO_ELEMENT, () -> x.stock(a, 100));
            Check.due("nor STOCK", Check.NO_ELEMENT, () -> x.stock(a, -1));
        }
        Rows.count("acts", x, 12, 9, 17, 11);
    }

    private static void days() {
        Check.sentence("DAYS: COST of all. NONE (STATUS 1): not 1 to 30");
        ShopEyes x = Check.shop("aisle 2 99;lapse 1 1 0 0;");
        Check.due("one", 2, x.days(1));
        Check.due("thirty", 60, x.days(30));
        Check.due("none", -1, x.days(0));
        Check.due("31", -1, x.days(31));
        Check.due("-1", -1, x.days(-1));
        for (int many : FAR_OFF) {
            Check.due("days " + many, -1, x.days(many));
        }
        Rows.count("31 days", x, 11, 31, 12, 2, 17, 3 + FAR_OFF.length);
        Check.due("one less on each", 68, x.aisle(0, 1));
        ShopEyes none = new ShopEyes();
        Check.due("in no shop", 0, none.days(30));
        Rows.count("they were", none, 11, 30, 12, 1);
    }

    private static void daysLeft() {
        Check.sentence("DAYS (1 to 30), each with STOCK as it is left");
        for (int many = 1; many <= 30; many++) {
            ShopEyes x = Check.shop("aisle 3 7;aisle 5 11;way 0 1;lapse 1 1 0 0;lapse 1 2 0 0 1 0;buyer 1 2 0 0 1;");
            // AISLE 0 is empty from the eighth on; AISLE 1 has one for the first of two alone on the sixth.
            Check.due("COST of " + many, 3 * Math.min(many, 7) + 5 * Math.min(many, 6), x.days(many));
            Check.due("left", Math.max(0, 7 - many), x.aisle(0, 1));
            Check.due("left", Math.max(0, 11 - 2 * many), x.aisle(1, 1));
            Check.due("undone", 0, x.undo());
            Check.due("as it was", 7, x.aisle(0, 1));
            Check.due("as it was", 11, x.aisle(1, 1));
        }
        ShopEyes x = Check.shop("aisle 1 1;");
        for (int i = 1; i <= 45; i++) {
            x.days(30);
            Check.due("all DAYS that there were", 30 * i, x.count(11));
        }
    }

    private static void alsoOneThatChangesNothing() {
        Check.sentence("also one by which all is as it is already");
        ShopEyes x = Check.shop("aisle 1 5;rule 1;");
        x.watch(1, 0);
        x.open(false);
        x.stops(1);
        x.stock(0, 5);
        x.days(1);
        Rows.count("five", x, 12, 5, 11, 1);
        for (int left = 4; left >= 0; left--) {
            Check.due("undo", left, x.undo());
        }
        Check.due("no more", -1, x.undo());
        Rows.count("as at first", x, 8, 1, 9, 0, 10, 0, 7, 1, 11, 0);
        ShopEyes none = new ShopEyes();
        none.watch(0, 9);
        none.watch(0, 9);
        Check.due("in no shop", 1, none.undo());
    }

    private static void act(ShopEyes x, int kind, int i) {
        switch (kind) {
            case 0 -> x.watch(3, i % 3);
            case 1 -> x.open(i % 2 == 0);
            case 2 -> x.stops(i % 3);
            case 3 -> x.stock(1, i % 100);
            default -> x.days(1);
        }
    }

    private static void fortyAreKept() {
        Check.sentence("ACTS (at most 40 are kept, the latest ones; also one by which all is as it is already)");
        for (int kind = 0; kind < 5; kind++) {
            ShopEyes x = Check.shop(SHOP);
            for (int i = 1; i <= 43; i++) {
                act(x, kind, i);
                Rows.count("kind " + kind, x, 12, Math.min(i, 40));
            }
            for (int left = 39; left >= 0; left--) {
                Check.due("kind " + kind + " undone", left, x.undo());
            }
            Check.due("no more", -1, x.undo());
            Rows.count("kind " + kind, x, 12, 0);
        }
    }

    private static void theLatestAreKept() {
        Check.sentence("the latest ones");
        for (int acts = 38; acts <= 44; acts++) {
            ShopEyes x = Check.shop(SHOP);
            for (int i = 0; i < acts; i++) {
                x.stock(i % 3, 50 + i);
            }
            int[] oldest = {7, 3, 5};
            for (int i = 0; i < acts - 40; i++) {
                oldest[i % 3] = 50 + i;
            }
            for (int i = acts - 1; i >= Math.max(0, acts - 40); i--) {
                Check.due("act " + i, 50 + i, x.aisle(i % 3, 1));
                x.undo();
            }
            Check.due("no more", -1, x.undo());
            for (int a = 0; a < 3; a++) {
                Check.due("STOCK of " + a + " behind " + acts + " acts", oldest[a], x.aisle(a, 1));
            }
        }
    }

    private static void lastOneFirst() {
        Check.sentence("They are UNDONE, the last one first");
        ShopEyes x = Check.shop(SHOP);
        int[] stock = {11, 22, 33, 44};
        for (int one : stock) {
            x.stock(0, one);
        }
        for (int left = 3; left >= 0; left--) {
            Check.due("undo", left, x.undo());
            Check.due("STOCK", left == 0 ? 7 : stock[left - 1], x.aisle(0, 1));
        }
        x.stock(0, 55);
        Check.due("undo", 0, x.undo());
        Check.due("STOCK", 7, x.aisle(0, 1));
    }

    private static void undoEachKind() {
        Check.sentence("THE WATCH becomes another (nobody; a RULE; somebody; an AISLE); HIDDEN or OPEN; STOPS; a MIRROR more (at most 6)");
        ShopEyes x = Check.shop(SHOP);
        x.watch(2, 1);
        x.watch(3, 2);
        x.watch(3, 1);
        x.watch(0, 5);
        int[][] watches = {{3, 1}, {3, 2}, {2, 1}, {1, 0}};
        for (int[] one : watches) {
            x.undo();
            Rows.count("watch", x, 8, one[0], 9, one[1]);
        }
        x.open(true);
        x.open(false);
        x.undo();
        Rows.count("open", x, 10, 1);
        x.undo();
        Rows.count("hidden", x, 10, 0);
        x.stops(2);
        x.stops(1);
        x.undo();
        Rows.count("by sight", x, 7, 2);
        x.undo();
        Rows.count("none", x, 7, 0);
        x.mirror(0, 2);
        x.mirror(2, 0);
        x.undo();
        Rows.count("mirrors", x, 2, 2);
        Check.due("seen", 4, x.aisle(0, 3));
        Check.due("not seen", 0, x.aisle(2, 3));
        x.undo();
        Check.due("not seen", 0, x.aisle(0, 3));
        Check.due("as told", 1, x.aisle(1, 3));
        x.days(1);
        x.days(2);
        Check.due("lost", 0, x.aisle(1, 1));
        x.undo();
        Rows.count("a day", x, 11, 1);
        Check.due("lost", 2, x.aisle(1, 1));
        Check.due("paid", 4, x.aisle(2, 1));
        Check.due("nothing was taken", 7, x.aisle(0, 1));
        x.undo();
        Rows.count("no day", x, 11, 0, 12, 0);
        int cost = x.day(0);
        x.watch(3, 1);
        x.stops(2);
        Check.due("another DAY", true, cost != x.day(0));
        x.undo();
        x.undo();
        Check.due("the DAY is as it was", cost, x.day(0));
    }

    /** In a shop of ten AISLES all that an act keeps is full. */
    private static void undoInTenAisles() {
        Check.sentence("STOCK of an AISLE becomes another");
        ShopEyes x = Check.shop("aisle 1 9;".repeat(10) + "mirror 9 0;");
        for (int a = 0; a < 10; a++) {
            Check.due("as told", 9, x.stock(a, 90 + a));
            x.watch(3, a);
            x.open(true);
            x.stops(2);
        }
        x.mirror(9, 8);
        x.mirror(0, 9);
        x.undo();
        Check.due("not seen", 0, x.aisle(0, 3));
        x.undo();
        Check.due("as told", 1, x.aisle(9, 3));
        for (int a = 9; a >= 2; a--) {
            for (int i = 0; i < 4; i++) {
                Check.due("another", 90 + a, x.aisle(a, 1));
                x.undo();
            }
            for (int other = 0; other < 10; other++) {
                Check.due("STOCK of " + other, other < a ? 90 + other : 9, x.aisle(other, 1));
            }
            Rows.count("watch", x, 8, 3, 9, a - 1);
        }
    }

    private static void nothingToUndo() {
        Check.sentence("The last ACT is UNDONE: how many are left. NONE: there is none");
        ShopEyes x = Check.shop(SHOP);
        Check.due("none", -1, x.undo());
        x.open(true);
        Check.due("none are left", 0, x.undo());
        Check.due("none", -1, x.undo());
        Check.due("none", -1, new ShopEyes().undo());
        Rows.count("isn't counted as refused", x, 12, 0, 17, 0);
        x.watch(9, 9);
        x.stops(3);
        x.mirror(0, 0);
        x.stock(0, 100);
        x.days(0);
        Check.due("what was refused is no act", -1, x.undo());
        x.sign(1, true);
        x.miss(0, 1);
        x.lay();
        x.image();
        Check.due("nor is what isn't an act", -1, x.undo());
        Rows.count("signs stay", x, 13, 1, 14, 1);
    }

    private static void status() {
        Check.sentence("STATUS: how many calls were refused: 0 TEXTS with a FAULT, 1 ACTS, 2 SIGNS, MISSING");
        ShopEyes x = Check.shop(SHOP);
        for (int i = 1; i <= 9; i++) {
            Check.feed(x, "x");
            x.shop(1);
            x.watch(7, 0);
            x.stops(7);
            x.sign(10, true);
            x.miss(9, 1);
            Rows.count("round " + i, x, 16, i, 17, 2 * i, 18, 2 * i);
        }
        Check.due("no such n", Check.ILLEGAL, () -> x.shop(999));
        Check.due("no AISLE", Check.NO_ELEMENT, () -> x.stock(9, 1));
        Check.due("no such what", Check.NO_ELEMENT, () -> x.count(19));
        x.undo();
        x.restore();
        for (int i = 0; i < 36; i++) {
            x.feed(0x20202020, 0x20202020, 0x20202020, 0x20202020, 0x20202020);
        }
        Rows.count("not counted", x, 16, 9, 17, 18, 18, 18);
        Check.due("a SHOP without a FAULT", 0, x.shop(700));
        Rows.count("all else is new", x, 16, 9, 17, 18, 18, 18, 0, 0);
    }

    private static void image() {
        Check.sentence("AN IMAGE keeps the WATCH, HIDDEN, STOPS, MIRRORS, STOCK, DAYS, ACTS that are kept, SIGNS, MISSING, STATUS");
        ShopEyes x = Check.shop(SHOP);
        x.image();
        x.watch(3, 2);
        x.open(true);
        x.stops(2);
        x.mirror(0, 2);
        x.stock(0, 50);
        x.days(2);
        x.sign(3, true);
        x.miss(1, 5);
        x.sign(11, true);
        x.watch(9, 9);
        Check.feed(x, "x");
        x.shop(1);
        Rows.count("now", x, 2, 2, 7, 2, 8, 3, 9, 2, 10, 1, 11, 2, 12, 6, 13, 1, 14, 1, 16, 1, 17, 1, 18, 1);
        Check.due("the buyer is seen taking", 2, x.day(5));
        Check.due("restored", true, x.restore());
        Rows.count("then", x, 2, 1, 7, 0, 8, 1, 9, 0, 10, 0, 11, 0, 12, 0, 13, 0, 14, 0, 16, 0, 17, 0, 18, 0);
        Check.due("STOCK", 7, x.aisle(0, 1));
        Check.due("not seen", 0, x.aisle(0, 3));
        Check.due("no sign", 0, x.odds(0, 0));
        Check.due("nothing is missing", Check.NO_ELEMENT, () -> x.who(0));
        Check.due("the other one is again", 1, x.day(5));
        Check.due("the day", 50, x.day(0));
        Check.due("no act", -1, x.undo());
        Check.due("again", true, x.restore());
        // Neither the tape nor the FAULT's place nor the row of lay is among what it keeps.
        x.lay();
        int from = x.laid(0);
        Check.feed(x, "abc");
        x.restore();
        Check.due("the tape", 20, x.count(15));
        Check.due("the place", 0, x.fault());
        Check.due("the row", from, x.laid(0));
    }

    private static void imageKeepsWhatIsTold() {
        Check.sentence("SIGNS, MISSING");
        ShopEyes x = Check.shop(SHOP);
        x.sign(4, true);
        x.sign(6, false);
        x.miss(1, 3);
        x.miss(0, 60);
        x.image();
        x.forget();
        for (int i = 0; i < 12; i++) {
            x.sign(9, i % 3 == 0);
        }
        for (int i = 0; i < 8; i++) {
            x.miss(2, 1);
        }
        x.restore();
        Rows.count("two of each", x, 13, 2, 14, 2);
        int[] upper = {1, 1, 1, 1, 1, 0, 0, 0, 0, 0};
        int[] lower = {2, 2, 2, 2, 2, 1, 1, 1, 1, 1};
        for (int coat = 0; coat < 10; coat++) {
            Check.due("odds " + coat, upper[coat], x.odds(coat, 0));
            Check.due("odds " + coat, lower[coat], x.odds(coat, 1));
        }
        Check.due("in AISLE 1 up to 3", 1, x.who(0));
        Check.due("in AISLE 0 up to 60", 3, x.who(1));
        Check.due("the third", 3, x.sign(9, true));
        Check.due("the third", 3, x.miss(0, 1));
    }

    private static void imageKeepsActs() {
        Check.sentence("ACTS that are kept");
        ShopEyes x = Check.shop(SHOP);
        x.stock(0, 10);
        x.stock(0, 20);
        x.stock(0, 30);
        x.image();
        x.undo();
        x.undo();
        x.stock(1, 40);
        x.stops(2);
        x.watch(3, 1);
        x.restore();
        Rows.count("three", x, 12, 3, 7, 0, 8, 1);
        int[] stock = {20, 10, 7};
        for (int i = 0; i < 3; i++) {
            Check.due("undo", 2 - i, x.undo());
            Check.due("STOCK", stock[i], x.aisle(0, 1));
            Check.due("the other one", 3, x.aisle(1, 1));
        }
        for (int i = 0; i < 41; i++) {
            x.stock(2, i);
        }
        x.image();
        for (int i = 0; i < 45; i++) {
            x.undo();
        }
        x.restore();
        Rows.count("forty", x, 12, 40);
        Check.due("the latest", 40, x.aisle(2, 1));
        x.undo();
        Check.due("the latest is undone", 39, x.aisle(2, 1));
    }

    private static void inPlaceOfAnother() {
        Check.sentence("AN IMAGE is kept, in place of another one");
        ShopEyes x = Check.shop(SHOP);
        for (int stock = 10; stock < 14; stock++) {
            x.stock(0, stock);
            x.image();
        }
        x.stock(0, 99);
        x.restore();
        Check.due("the latest image", 13, x.aisle(0, 1));
        x.undo();
        x.restore();
        Check.due("it is kept still", 13, x.aisle(0, 1));
        Rows.count("acts", x, 12, 4);
    }

    private static void noImage() {
        Check.sentence("It is as the IMAGE again: true. False: there is none");
        ShopEyes x = Check.shop(SHOP);
        x.open(true);
        Check.due("none", false, x.restore());
        Rows.count("stays", x, 10, 1, 12, 1, 16, 0, 17, 0, 18, 0);
        x.image();
        x.open(false);
        Check.due("there is", true, x.restore());
        Rows.count("open", x, 10, 1);
        Check.feed(x, "#");
        x.shop(1);
        Check.due("a FAULT leaves it", true, x.restore());
        x.forget();
        Check.due("forgetting leaves it", true, x.restore());
        x.shop(0);
        Check.due("a SHOP doesn't", false, x.restore());
        ShopEyes none = new ShopEyes();
        Check.due("none", false, none.restore());
        none.image();
        none.sign(1, true);
        Check.due("of no shop", true, none.restore());
        Rows.count("no sign", none, 13, 0);
    }
}
