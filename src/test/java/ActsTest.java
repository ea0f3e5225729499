/** Promises 10 to 16, 36 and 37: acts, how they are undone, and the image. */
public final class ActsTest {
    private static final String SHOP = "aisle 0 0;aisle 50 3;aisle 20 5;way 0 1;way 1 2;mirror 1 0;"
        + "lapse 2 2 5 0 1 1 0;buyer 3 3 1 0 1 2;rule coat;rule 0;stops 0;";
    private static final int[] WRONG = {-1, -2, Integer.MAX_VALUE, Integer.MIN_VALUE};

    public static void main(String[] args) {
        watch();
        open();
        stops();
        mirror();
        stock();
        days();
        undo();
        onlyFortyAreKept();
        image();
        Check.end("ActsTest");
    }

    private static void watch() {
        int[] most = {0, 2, 2, 3};
        for (int how = 1; how <= 3; how++) {
            ShopEyes x = Check.shop(SHOP);
            Rows.count("first", x, 8, 1, 9, 0, 10, 0, 12, 0);
            int last = most[how] - 1;
            Check.due("watch " + how, true, x.watch(how, last));
            Check.due("again", true, x.watch(how, last));
            Rows.count("watch", x, 8, how, 9, last, 12, 2, 17, 0);
            Check.due("one more " + how, false, x.watch(how, last + 1));
            for (int which : WRONG) {
                Check.due("watch " + how + " " + which, false, x.watch(how, which));
            }
            Rows.count("refused", x, 8, how, 9, last, 12, 2, 17, 5);
        }
        ShopEyes x = Check.shop(SHOP);
        for (int how : new int[] {-1, 4, Integer.MAX_VALUE, Integer.MIN_VALUE}) {
            Check.due("watch " + how, false, x.watch(how, 0));
        }
        for (int which : WRONG) {
            Check.due("nobody counts which for nothing", true, x.watch(0, which));
            Rows.count("nobody", x, 8, 0, 9, 0);
        }
        Rows.count("four acts, four refused", x, 12, 4, 17, 4);
        ShopEyes none = new ShopEyes();
        Check.due("no rule", false, none.watch(1, 0));
        Check.due("nobody there", false, none.watch(2, 0));
        Check.due("no aisle", false, none.watch(3, 0));
        Check.due("nobody", true, none.watch(0, 0));
    }

    private static void open() {
        ShopEyes x = Check.shop(SHOP);
        Check.due("hidden", false, x.open(false));
        Check.due("hidden", false, x.open(true));
        Check.due("open", true, x.open(true));
        Check.due("open", true, x.open(false));
        Rows.count("open", x, 10, 0, 12, 4, 17, 0);
    }

    private static void stops() {
        ShopEyes x = Check.shop(SHOP);
        Check.due("as told", 0, x.stops(2));
        Check.due("by sight", 2, x.stops(1));
        Check.due("by proof", 1, x.stops(1));
        Check.due("by proof", 1, x.stops(0));
        Rows.count("stops", x, 7, 0, 12, 4);
        for (int stops : new int[] {-1, 3, Integer.MAX_VALUE, Integer.MIN_VALUE}) {
            Check.due("stops " + stops, -1, x.stops(stops));
        }
        Rows.count("refused", x, 7, 0, 12, 4, 17, 4);
        Check.due("without", 1, Check.shop("").count(7));
    }

    private static void mirror() {
        ShopEyes x = Check.shop(SHOP);
        Check.due("there", -1, x.mirror(1, 0));
        Check.due("one", -1, x.mirror(2, 2));
        for (int aisle : new int[] {-1, 3, 40, Integer.MAX_VALUE, Integer.MIN_VALUE}) {
            Check.due("mirror " + aisle, -1, x.mirror(aisle, 0));
            Check.due("mirror 0 " + aisle, -1, x.mirror(0, aisle));
        }
        Rows.count("refused", x, 2, 1, 12, 0, 17, 12);
        int[][] more = {{0, 1}, {0, 2}, {1, 2}, {2, 0}};
        for (int i = 0; i < 4; i++) {
            Check.due("mirror", i + 2, x.mirror(more[i][0], more[i][1]));
        }
        Check.due("seen", 6, x.aisle(0, 3));
        Check.due("the sixth", 6, x.mirror(2, 1));
        Check.due("the seventh", -1, x.mirror(2, 1));
        x.undo();
        Check.due("not seen", 1, x.aisle(2, 3));
        Check.due("the sixth again", 6, x.mirror(2, 1));
        ShopEyes y = Check.shop("aisle 1 1;".repeat(4));
        int[][] six = {{0, 1}, {0, 2}, {0, 3}, {1, 0}, {1, 2}, {1, 3}};
        for (int[] couple : six) {
            y.mirror(couple[0], couple[1]);
        }
        Check.due("there are six", -1, y.mirror(3, 0));
        Rows.count("six", y, 2, 6, 12, 6, 17, 1);
    }

    private static void stock() {
        ShopEyes x = Check.shop(SHOP);
        Check.due("as it was", 3, x.stock(1, 99));
        Check.due("as it was", 99, x.stock(1, 0));
        Check.due("as it was", 0, x.stock(1, 0));
        Check.due("another", 5, x.aisle(2, 1));
        for (int stock : new int[] {-1, 100, Integer.MAX_VALUE, Integer.MIN_VALUE}) {
            Check.due("stock " + stock, -1, x.stock(1, stock));
        }
        for (int aisle : new int[] {-1, 3, Integer.MAX_VALUE, Integer.MIN_VALUE}) {
            Check.due("stock of " + aisle, Check.NO_ELEMENT, () -> x.stock(aisle, 1));
        }
        Rows.count("stock", x, 12, 3, 17, 4);
    }

    private static void days() {
        ShopEyes x = Check.shop(SHOP);
        Check.due("two days", 100, x.days(2));
        Check.due("lost", 1, x.aisle(1, 1));
        Check.due("paid", 3, x.aisle(2, 1));
        Check.due("till there is no more", 50, x.days(30));
        Check.due("none", 0, x.aisle(1, 1));
        Check.due("none", 0, x.aisle(2, 1));
        Rows.count("days", x, 11, 32, 12, 2);
        for (int many : new int[] {0, -1, 31, Integer.MAX_VALUE, Integer.MIN_VALUE}) {
            Check.due("days " + many, -1, x.days(many));
        }
        Rows.count("refused", x, 11, 32, 12, 2, 17, 5);
        Check.due("undone", 1, x.undo());
        Check.due("as it was", 1, x.aisle(1, 1));
        Check.due("as it was", 3, x.aisle(2, 1));
        Rows.count("undone", x, 11, 2);
        Check.due("undone", 0, x.undo());
        Check.due("as it was", 3, x.aisle(1, 1));
        Rows.count("undone", x, 11, 0);
        Check.due("none", -1, x.undo());
        Rows.count("not counted", x, 17, 5);
    }

    private static void undo() {
        ShopEyes x = Check.shop(SHOP);
        Check.due("none", -1, x.undo());
        x.watch(3, 1);
        x.open(true);
        x.stops(2);
        x.mirror(0, 1);
        x.stock(1, 9);
        x.days(3);
        Check.due("by sight, open", 0, x.day(0));
        Rows.count("all", x, 2, 2, 7, 2, 8, 3, 9, 1, 10, 1, 11, 3, 12, 6);
        Check.due("days", 5, x.undo());
        Rows.count("days", x, 11, 0);
        Check.due("stock", 9, x.aisle(1, 1));
        Check.due("stock", 4, x.undo());
        Check.due("stock", 3, x.aisle(1, 1));
        Check.due("mirror", 3, x.undo());
        Rows.count("mirror", x, 2, 1, 7, 2);
        Check.due("not seen", 0, x.aisle(0, 3));
        Check.due("stops", 2, x.undo());
        Rows.count("stops", x, 7, 0, 10, 1);
        Check.due("no stops", 50, x.day(0));
        Check.due("open", 1, x.undo());
        Rows.count("open", x, 10, 0, 8, 3);
        Check.due("watch", 0, x.undo());
        Rows.count("watch", x, 8, 1, 9, 0);
    }

    private static void onlyFortyAreKept() {
        ShopEyes x = Check.shop(SHOP);
        for (int i = 0; i < 45; i++) {
            x.stock(2, i);
            Rows.count("kept", x, 12, Math.min(40, i + 1));
        }
        for (int i = 39; i >= 0; i--) {
            Check.due("undo", i, x.undo());
            Check.due("stock", 4 + i, x.aisle(2, 1));
        }
        Check.due("no more", -1, x.undo());
        Check.due("the oldest stay", 4, x.aisle(2, 1));
    }

    /** What is told behind the image takes the same places in its rows. */
    private static void rowsOfAnImage() {
        ShopEyes x = Check.shop(SHOP);
        x.stock(1, 7);
        x.sign(4, true);
        x.miss(1, 3);
        x.image();
        int cost = x.day(0);
        x.undo();
        x.stock(2, 9);
        x.stops(2);
        x.watch(3, 1);
        x.forget();
        x.sign(9, false);
        x.miss(2, 1);
        Check.due("another day", true, cost != x.day(0));
        x.restore();
        Check.due("the same day", cost, x.day(0));
        Check.due("the coat", 0, x.odds(5, 0));
        Check.due("he had", 1, x.odds(4, 0));
        Check.due("the aisle, the minute", 1, x.who(0));
        Check.due("the act", 0, x.undo());
        Check.due("is undone", 3, x.aisle(1, 1));
        Check.due("the other one was none", 5, x.aisle(2, 1));
    }

    private static void image() {
        ShopEyes x = Check.shop(SHOP);
        Check.due("none", false, x.restore());
        x.watch(3, 2);
        x.open(true);
        x.stops(2);
        x.mirror(0, 2);
        x.days(1);
        x.sign(4, true);
        x.miss(1, 9);
        x.stops(7);
        x.sign(10, true);
        x.image();
        int cost = x.day(0);
        x.watch(0, 0);
        x.open(false);
        x.stops(0);
        x.mirror(2, 0);
        x.days(2);
        x.stock(0, 8);
        x.sign(1, false);
        x.forget();
        x.miss(9, 9);
        x.stops(7);
        x.lay();
        Check.feed(x, "x");
        x.shop(1);
        Check.feed(x, "abc");
        Check.due("restored", true, x.restore());
        Rows.count("restored", x, 2, 2, 7, 2, 8, 3, 9, 2, 10, 1, 11, 1, 12, 5, 13, 1, 14, 1, 15, 20, 16, 0, 17, 1, 18, 1);
        Check.due("day", cost, x.day(0));
        Check.due("stock", 0, x.aisle(0, 1));
        Check.due("seen", 4, x.aisle(0, 3));
        Check.due("not seen", 0, x.aisle(2, 3));
        Check.due("sign", 1, x.odds(4, 0));
        Check.due("missing", 3, x.who(0));
        Check.due("the fault's place is not in it", 0, x.fault());
        Check.due("a row that is kept is not in it", true, x.laid(0) >= 0);
        Check.due("acts", 4, x.undo());
        Check.due("days undone", 0, x.count(11));
        Check.due("it stays", true, x.restore());
        Rows.count("again", x, 11, 1, 12, 5);
        x.watch(1, 1);
        x.image();
        x.undo();
        x.restore();
        Rows.count("in place of another one", x, 8, 1, 9, 1, 12, 6);
        x.shop(20);
        Check.due("a fault leaves it", true, x.restore());
        x.shop(0);
        Check.due("gone by a shop", false, x.restore());
        ShopEyes anew = new ShopEyes();
        Check.due("none", false, anew.restore());
        anew.image();
        Check.due("of a new object", true, anew.restore());
        rowsOfAnImage();
    }
}
