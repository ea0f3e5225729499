/** Promises 21 to 26: what would be best for one DAY; what is stays as it is. */
public final class AskTest {
    private static final String ROW = "aisle 0 0;aisle 50 3;aisle 20 5;aisle 100 1;way 0 1;way 1 2;way 2 3;";

    public static void main(String[] args) {
        best();
        likeOnes();
        openOrHidden();
        glass();
        lay();
        without();
        whatIsStays();
        wrongInputs();
        Check.end("AskTest");
    }

    private static void best() {
        ShopEyes none = new ShopEyes();
        Rows.best("none", none, 0, -1, -1);
        Rows.best("none", none, 1, -1, -1);
        Rows.best("none", none, 2, -1, 0);
        ShopEyes x = Check.shop(ROW + "mirror 2 0;mirror 2 1;lapse 1 2 3 0 1 0;lapse 1 3 4 0 1 2 1 0;rule 0;rule coat;rule 9-coat;");
        Rows.best("stand", x, 0, 2, 0);
        Rows.best("follow", x, 1, 1, 0);
        Rows.best("rule", x, 2, 1, 0);
        x.watch(3, 2);
        Rows.best("follow, whatever is", x, 1, 1, 0);
        ShopEyes wrongly = Check.shop(ROW + "stops 2;false 10;buyer 1 2 9 0 1 1 1 0;rule coat*(minute<3);");
        ShopEyes one = Check.shop("aisle 1 9;aisle 1 9;way 0 1;lapse 1 2 0 0 1 0;mirror 1 0;rule 0;rule 1;");
        Rows.best("1, then 0", one, 0, 1, 0);
        Rows.best("1, then 0", one, 2, 1, 0);
        Rows.best("better nobody", wrongly, 2, -1, 0);
        wrongly.stops(1);
        Rows.best("the first, nobody behind all", wrongly, 2, 0, 0);
    }

    private static void likeOnes() {
        ShopEyes x = Check.shop(ROW + "lapse 1 2 3 0 1 2;lapse 1 2 3 0 1 2;rule 1;rule 2;");
        Rows.best("the first aisle", x, 0, 0, 0);
        Rows.best("the first one", x, 1, 0, 0);
        Rows.best("the first rule", x, 2, 0, 0);
        ShopEyes lost = Check.shop(ROW + "stops 0;lapse 1 2 3 0 1 0;lapse 1 2 3 0 1 0;rule 1;rule 2;");
        Rows.best("the first aisle", lost, 0, 0, 100);
        Rows.best("the first one", lost, 1, 0, 100);
        Rows.best("the first rule", lost, 2, 0, 100);
    }

    private static void openOrHidden() {
        ShopEyes x = Check.shop(ROW + "thief 1 2 9 0 1 0;notice 9;");
        x.watch(3, 1);
        Check.due("hidden", 50, x.cost(false));
        Check.due("open: before he takes", 0, x.cost(true));
        ShopEyes y = Check.shop(ROW + "thief 1 2 9 0 1 1 0;notice 9;");
        y.watch(3, 1);
        Check.due("hidden", 50, y.cost(false));
        Check.due("open", 0, y.cost(true));
        y.open(true);
        Check.due("hidden", 50, y.cost(false));
        Check.due("open", 0, y.cost(true));
        Check.due("no aisles", 0, new ShopEyes().cost(true));
    }

    private static void glass() {
        Rows.glass("no aisles", new ShopEyes(), -1, -1);
        ShopEyes x = Check.shop(ROW + "lapse 1 2 3 0 1 0;lapse 1 3 3 0 1 2 1 0;");
        Rows.glass("nobody watches", x, -1, -1);
        x.watch(3, 1);
        Rows.glass("to the door", x, 10, 20);
        x.mirror(1, 0);
        Rows.glass("there now", x, 12, 0);
        x.mirror(1, 2);
        Rows.glass("nothing is lost", x, -1, -1);
        ShopEyes like = Check.shop(ROW + "lapse 1 2 3 0 1 0;");
        like.watch(3, 0);
        Rows.glass("the first that is less", like, 1, 0);
        like.mirror(2, 0);
        like.mirror(2, 1);
        like.mirror(2, 3);
        like.mirror(3, 0);
        like.mirror(3, 1);
        Rows.glass("five", like, 1, 0);
        like.mirror(3, 2);
        Rows.glass("six", like, -1, -1);
        ShopEyes ten = Check.shop("aisle 9 9;".repeat(10) + "way 0 9;lapse 1 2 0 0 9 0;");
        ten.watch(3, 9);
        Rows.glass("from the last aisle", ten, 90, 0);
        ten.watch(3, 0);
        Rows.glass("to the last aisle", ten, 9, 0);
    }

    private static void lay() {
        ShopEyes none = new ShopEyes();
        Check.due("no aisles", 0, none.lay());
        Check.due("no aisle", Check.NO_ELEMENT, () -> none.laid(0));
        String trips = "lapse 1 2 3 0 1 0;lapse 1 2 3 0 1 0;lapse 1 3 3 0 1 2 1 0;";
        ShopEyes x = Check.shop("aisle 5 0;aisle 50 3;aisle 20 5;aisle 5 1;way 0 1;way 1 2;way 2 3;" + trips);
        Check.due("none is kept", Check.NO_ELEMENT, () -> x.laid(0));
        Check.due("least", 5 + 5 + 5, x.lay());
        Rows.laid("of like ones the first", x, 1, 0, 3, 2);
        Check.due("what is stays", 5, x.aisle(0, 0));
        x.stock(2, 0);
        Check.due("is kept", 1, x.laid(0));
        Check.due("stock stays where it is", 10, x.lay());
        Rows.laid("the first of those", x, 0, 3, 1, 2);
        ShopEyes five = Check.shop("aisle 1 9;aisle 2 9;aisle 3 9;aisle 4 9;aisle 0 9;way 0 1;way 0 2;way 0 3;way 0 4;"
            + "lapse 1 2 0 0 4 0;lapse 1 2 0 0 4 0;lapse 1 2 0 0 3 0;lapse 1 1 0 0;");
        Check.due("five", 0 + 0 + 1 + 2, five.lay());
        Rows.laid("five", five, 0, 2, 3, 1, 4);
        ShopEyes last = Check.shop("aisle 4 9;aisle 3 9;aisle 2 9;aisle 1 9;aisle 0 9;way 0 1;way 0 2;way 0 3;way 0 4;"
            + "lapse 1 1 0 0;lapse 1 1 0 0;lapse 1 2 0 0 1 0;lapse 1 2 0 0 1 0;lapse 1 2 0 0 2 0;lapse 1 1 0 0;lapse 1 2 0 0 1 0;"
            + "lapse 1 1 0 0;");
        Check.due("four, three and one", 0 * 4 + 1 * 3 + 2, last.lay());
        Rows.laid("of like ones the first", last, 4, 3, 2, 0, 1);
        ShopEyes six = Check.shop("aisle 1 1;".repeat(6));
        Check.due("spent", -2, six.lay());
        Check.due("none is kept", Check.NO_ELEMENT, () -> six.laid(0));
        ShopEyes rule = Check.shop("aisle 9 0;aisle 8 4;aisle 0 0;way 0 1;way 0 2;lapse 1 2 0 0 1 0;buyer 1 0 0 0 2;mirror 1 0;rule worth;");
        Check.due("rules see it laid so", 0, rule.lay());
        Rows.laid("nothing lost", rule, 0, 1, 2);
    }

    private static void without() {
        ShopEyes x = Check.shop(ROW + "lapse 1 2 3 0 1 0;lapse 1 3 9 0 1 2 1 0;rule coat;");
        Check.due("all", 50, x.day(0));
        Check.due("followed the other one", 0, x.without(0));
        Check.due("follows the first", 0, x.without(1));
        x.watch(2, 1);
        Check.due("follows nobody", 50, x.without(1));
        x.watch(0, 0);
        Check.due("nobody watches", 20, x.without(0));
        Check.due("nobody watches", 50, x.without(1));
        ShopEyes one = Check.shop("aisle 0 0;aisle 9 1;way 0 1;lapse 1 2 0 0 1 0;lapse 2 2 0 0 1 0;");
        Check.due("another one takes it", 9, one.without(0));
    }

    private static void whatIsStays() {
        ShopEyes x = Check.shop(ROW + "lapse 1 2 3 0 1 0;lapse 1 3 9 0 1 2 1 0;rule coat;");
        int[] before = new int[8];
        for (int what = 0; what < 8; what++) {
            before[what] = x.day(what);
        }
        for (int i = 0; i < 6; i++) {
            x.best(i / 2, i % 2);
        }
        x.cost(true);
        x.cost(false);
        x.glass(0);
        x.glass(1);
        x.lay();
        x.without(1);
        x.weeks(7, 30, 0);
        x.game(0);
        x.who(-1);
        for (int what = 0; what < 8; what++) {
            Check.due("day " + what, before[what], x.day(what));
        }
        int[] due = {4, 3, 0, 2, 1, 3, 400, 1, 1, 0, 0, 0, 0, 0, 0, 0, 0, 0, 0};
        for (int what = 0; what < due.length; what++) {
            Check.due("count " + what, due[what], x.count(what));
        }
        int[] stock = {0, 3, 5, 1};
        for (int a = 0; a < 4; a++) {
            Check.due("stock " + a, stock[a], x.aisle(a, 1));
            Check.due("seen " + a, 0, x.aisle(a, 3));
        }
    }

    private static void wrongInputs() {
        ShopEyes x = Check.shop(ROW + "buyer 1 0 0 0;");
        x.lay();
        for (int no : new int[] {-1, 4, Integer.MAX_VALUE, Integer.MIN_VALUE}) {
            Check.due("best by " + no, Check.NO_ELEMENT, () -> x.best(no, 0));
            Check.due("best what " + no, Check.NO_ELEMENT, () -> x.best(0, no));
            Check.due("glass " + no, Check.NO_ELEMENT, () -> x.glass(no));
            Check.due("laid " + no, Check.NO_ELEMENT, () -> x.laid(no));
            Check.due("without " + no, Check.NO_ELEMENT, () -> x.without(no));
        }
        Check.due("best 3", Check.NO_ELEMENT, () -> x.best(3, 0));
        Check.due("best 0 2", Check.NO_ELEMENT, () -> x.best(0, 2));
        Check.due("glass 2", Check.NO_ELEMENT, () -> x.glass(2));
        Check.due("without 1", Check.NO_ELEMENT, () -> x.without(1));
    }
}
