import java.util.List;

/** Calls that are refused, by an answer or by an exception, leave all as it was but for the STATUS that counts them. */
public final class RefusedTest {
    private static final int MIN = Integer.MIN_VALUE;
    private static final int MAX = Integer.MAX_VALUE;
    private static final int TEXTS = 16;
    private static final int ACTS = 17;
    private static final int TOLD = 18;
    private static final int NOTHING = 0;
    private static final String SHOP = "aisle 9 3;aisle 8 3;aisle 7 3;way 0 1;way 1 2;mirror 2 0;"
        + "lapse 1 1 4 0;lapse 1 2 5 0 1 0;thief 2 3 6 0 1 2 1 0;buyer 1 2 7 0 1 0;rule coat;rule worth;";

    /** A call that is refused. */
    private interface Refused {
        long by(ShopEyes x);
    }

    public static void main(String[] args) {
        acts();
        fullMirrors();
        signs();
        fullSigns();
        missing();
        fullMissing();
        elements();
        minutes();
        whats();
        illegal();
        tape();
        texts();
        nothingThere();
        Check.end("RefusedTest");
    }

    /** A shop in which something of each kind has been told and done. */
    private static ShopEyes told() {
        ShopEyes x = Check.shop(SHOP);
        x.watch(3, 2);
        x.days(1);
        x.lay();
        x.sign(4, true);
        x.sign(7, false);
        x.miss(1, 3);
        x.image();
        x.mirror(2, 1);
        x.open(true);
        x.stops(2);
        x.stock(1, 50);
        x.miss(0, 60);
        return x;
    }

    private static void refused(String what, long due, int status, Refused call) {
        held(what, due, status, call, told(), told());
    }

    private static void held(String what, long due, int status, Refused call, ShopEyes x, ShopEyes twin) {
        int[] before = new int[19];
        for (int i = TEXTS; i <= TOLD; i++) {
            before[i] = x.count(i);
        }
        Check.due(what, due, () -> call.by(x));
        for (int i = TEXTS; i <= TOLD; i++) {
            Check.due(what + ": STATUS " + (i - TEXTS), before[i] + (i == status ? 1 : 0), x.count(i));
        }
        Looks.same(what, x, twin);
    }

    private static void acts() {
        Check.sentence("STATUS: how many calls were refused: .. 1 ACTS");
        int[][] watches = {{1, 2}, {1, -1}, {2, 4}, {2, -1}, {3, 3}, {3, -1}, {4, 0}, {-1, 0}, {MAX, 0}, {MIN, 0}, {3, MAX}, {2, MIN}, {3, 32}};
        for (int[] one : watches) {
            refused("watch " + one[0] + " " + one[1], 0, ACTS, x -> x.watch(one[0], one[1]) ? 1 : 0);
        }
        for (int stops : new int[] {-1, 3, MAX, MIN}) {
            refused("stops " + stops, -1, ACTS, x -> x.stops(stops));
        }
        int[][] mirrors = {{0, 0}, {2, 2}, {2, 0}, {2, 1}, {0, 3}, {3, 0}, {-1, 0}, {0, -1}, {0, 32}, {32, 1}, {MAX, MIN}};
        for (int[] one : mirrors) {
            refused("mirror " + one[0] + " " + one[1], -1, ACTS, x -> x.mirror(one[0], one[1]));
        }
        for (int stock : new int[] {-1, 100, MAX, MIN}) {
            refused("stock " + stock, -1, ACTS, x -> x.stock(2, stock));
        }
        for (int many : new int[] {-1, 0, 31, MAX, MIN}) {
            refused("days " + many, -1, ACTS, x -> x.days(many));
        }
    }

    private static void fullMirrors() {
        Check.sentence("NONE (STATUS 1): there are 6");
        ShopEyes[] two = {told(), told()};
        for (ShopEyes x : two) {
            x.mirror(0, 1);
            x.mirror(0, 2);
            x.mirror(1, 0);
            Check.due("the sixth", 6, x.mirror(1, 2));
        }
        held("the seventh", -1, ACTS, x -> x.mirror(2, 1), two[0], two[1]);
    }

    private static void signs() {
        Check.sentence("NONE (STATUS 2): .. not 0 to 9");
        for (int coat : new int[] {-1, 10, MAX, MIN}) {
            refused("sign " + coat, -1, TOLD, x -> x.sign(coat, true));
        }
    }

    private static void fullSigns() {
        Check.sentence("NONE (STATUS 2): there are 12");
        ShopEyes[] two = {told(), told()};
        for (ShopEyes x : two) {
            for (int i = 3; i <= 12; i++) {
                x.sign(i % 10, true);
            }
        }
        held("the thirteenth", -1, TOLD, x -> x.sign(0, false), two[0], two[1]);
    }

    private static void missing() {
        Check.sentence("NONE (STATUS 2): .. no such AISLE, MINUTE");
        int[][] some = {{3, 1}, {-1, 1}, {0, 0}, {0, 61}, {0, -1}, {MAX, 1}, {0, MIN}, {32, 1}};
        for (int[] one : some) {
            refused("miss " + one[0] + " " + one[1], -1, TOLD, x -> x.miss(one[0], one[1]));
        }
    }

    private static void fullMissing() {
        Check.sentence("NONE (STATUS 2): there are 8");
        ShopEyes[] two = {told(), told()};
        for (ShopEyes x : two) {
            for (int i = 3; i <= 8; i++) {
                x.miss(2, i);
            }
        }
        held("the ninth", -1, TOLD, x -> x.miss(0, 1), two[0], two[1]);
    }

    private static void elements() {
        Check.sentence("NoSuchElementException: no such one (as everywhere)");
        for (int a : new int[] {-1, 3, 10, 32, MAX, MIN}) {
            refused("aisle " + a, Check.NO_ELEMENT, NOTHING, x -> x.aisle(a, 0));
            refused("far " + a, Check.NO_ELEMENT, NOTHING, x -> x.far(a, 0));
            refused("far 0 " + a, Check.NO_ELEMENT, NOTHING, x -> x.far(0, a));
            refused("stock of " + a, Check.NO_ELEMENT, NOTHING, x -> x.stock(a, 1));
            refused("stock of " + a + ", and no STOCK", Check.NO_ELEMENT, NOTHING, x -> x.stock(a, 100));
            refused("laid " + a, Check.NO_ELEMENT, NOTHING, x -> x.laid(a));
        }
        for (int p : new int[] {-1, 4, 8, MAX, MIN}) {
            refused("person " + p, Check.NO_ELEMENT, NOTHING, x -> x.person(p, 0));
            refused("route " + p, Check.NO_ELEMENT, NOTHING, x -> x.route(p, 0));
            refused("route 0 " + p, Check.NO_ELEMENT, NOTHING, x -> x.route(0, p));
            refused("where " + p, Check.NO_ELEMENT, NOTHING, x -> x.where(p, 1));
            refused("has " + p, Check.NO_ELEMENT, NOTHING, x -> x.has(p, 1));
            refused("without " + p, Check.NO_ELEMENT, NOTHING, x -> x.without(p));
        }
        for (int i : new int[] {-2, 2, 8, MAX, MIN}) {
            refused("who " + i, Check.NO_ELEMENT, NOTHING, x -> x.who(i));
        }
    }

    private static void minutes() {
        Check.sentence("NoSuchElementException: also no such MINUTE (as everywhere)");
        for (int minute : new int[] {-1, 0, 61, MAX, MIN}) {
            refused("where in " + minute, Check.NO_ELEMENT, NOTHING, x -> x.where(0, minute));
            refused("has in " + minute, Check.NO_ELEMENT, NOTHING, x -> x.has(0, minute));
            refused("eyes in " + minute, Check.NO_ELEMENT, NOTHING, x -> x.eyes(minute));
        }
    }

    private static void whats() {
        Check.sentence("NoSuchElementException: another what");
        for (int what : new int[] {-1, 19, MAX, MIN}) {
            refused("count " + what, Check.NO_ELEMENT, NOTHING, x -> x.count(what));
            refused("aisle 0 " + what, Check.NO_ELEMENT, NOTHING, x -> x.aisle(0, what));
            refused("person 0 " + what, Check.NO_ELEMENT, NOTHING, x -> x.person(0, what));
            refused("day " + what, Check.NO_ELEMENT, NOTHING, x -> x.day(what));
            refused("best " + what, Check.NO_ELEMENT, NOTHING, x -> x.best(what, 0));
            refused("best 0 " + what, Check.NO_ELEMENT, NOTHING, x -> x.best(0, what));
            refused("glass " + what, Check.NO_ELEMENT, NOTHING, x -> x.glass(what));
            refused("odds 0 " + what, Check.NO_ELEMENT, NOTHING, x -> x.odds(0, what));
            refused("gate " + what, Check.NO_ELEMENT, NOTHING, x -> x.gate(1, 2, 3, 4, what));
            refused("game " + what, Check.NO_ELEMENT, NOTHING, x -> x.game(what));
            refused("weeks " + what, Check.NO_ELEMENT, NOTHING, x -> x.weeks(1, 2, what));
        }
    }

    private static void illegal() {
        Check.sentence("IllegalArgumentException (behind that)");
        for (int no : new int[] {-1, 100, MAX, MIN}) {
            refused("odds " + no, Check.ILLEGAL, NOTHING, x -> x.odds(no, 0));
            refused("gate " + no, Check.ILLEGAL, NOTHING, x -> x.gate(no, 99, 1, 1, 0));
            refused("weeks " + no, Check.ILLEGAL, NOTHING, x -> x.weeks(1, no, 0));
            refused("odds, both " + no, Check.NO_ELEMENT, NOTHING, x -> x.odds(no, no));
            refused("gate, both " + no, Check.NO_ELEMENT, NOTHING, x -> x.gate(no, no, no, no, no));
            refused("weeks, both " + no, Check.NO_ELEMENT, NOTHING, x -> x.weeks(1, no, no));
        }
    }

    private static void tape() {
        Check.sentence("IllegalArgumentException: the tape has not so many, n below 0 (nothing changes)");
        for (int n : new int[] {-1, 21, 701, MAX, MIN}) {
            ShopEyes[] two = {told(), told()};
            for (ShopEyes x : two) {
                Check.feed(x, "aisle 1 2;aisle 3");
            }
            held("shop " + n, Check.ILLEGAL, NOTHING, x -> x.shop(n), two[0], two[1]);
        }
        Check.sentence("NONE, and none come, if it would have more than 700");
        ShopEyes[] two = {told(), told()};
        for (ShopEyes x : two) {
            Check.feed(x, "#".repeat(699));
        }
        held("feed", -1, NOTHING, x -> x.feed(0, 0, 0, 0, 0), two[0], two[1]);
        Check.due("what was fed", 1, two[0].shop(700));
        Check.due("stays", 0, two[0].fault());
    }

    /** The tape and the place of the FAULT are what a TEXT with a FAULT changes. */
    private static void texts() {
        Check.sentence("or the FAULT (all else stays, but STATUS)");
        String[] texts = {"x", "aisle 1000 1;", "way 0 0;", "aisle 1 1;way 0 0;", "notice 1;notice 1;", "aisle 1 1;lapse 1 2 0 0;",
            "aisle 1 1;mirror 0 0;", "rule foo;", "stops 2;false 1;notice 9;rule 1", "aisle 1 1;lapse 1 0 0 0;rule 1;rule 2;x"};
        int[] faults = {1, 2, 3, 4, 5, 6, 4, 3, 1, 1};
        int[] places = {0, 6, 4, 16, 9, 23, 19, 5, 31, 38};
        for (int i = 0; i < texts.length; i++) {
            String text = texts[i];
            ShopEyes[] two = {told(), told()};
            List<Long> before = Looks.at(two[0]);
            Check.feed(two[0], text);
            Check.feed(two[1], " ".repeat(places[i]) + "#");
            Check.due("shop " + text, faults[i], two[0].shop(text.length()));
            Check.due("its place", places[i], two[0].fault());
            Check.due("STATUS 0", 1, two[0].count(TEXTS));
            List<Long> behind = Looks.at(two[0]);
            behind.set(Looks.PLACE, before.get(Looks.PLACE));
            Check.due("all else behind " + text, true, before.equals(behind));
            Check.due("a like place", 1, two[1].shop(places[i] + 1));
            Check.due("a like place", places[i], two[1].fault());
            Looks.same(text, two[0], two[1]);
        }
    }

    private static void nothingThere() {
        Check.sentence("NONE: there is none; False: there is none");
        ShopEyes[] two = {Check.shop(SHOP), Check.shop(SHOP)};
        held("undo", -1, NOTHING, x -> x.undo(), two[0], two[1]);
        held("restore", 0, NOTHING, x -> x.restore() ? 1 : 0, two[0], two[1]);
        held("laid", Check.NO_ELEMENT, NOTHING, x -> x.laid(0), two[0], two[1]);
        held("who", Check.NO_ELEMENT, NOTHING, x -> x.who(0), two[0], two[1]);
        String six = "aisle 1 1;".repeat(6);
        held("lay", -2, NOTHING, x -> x.lay(), Check.shop(six), Check.shop(six));
        held("in no shop", Check.NO_ELEMENT, NOTHING, x -> x.aisle(0, 0), new ShopEyes(), new ShopEyes());
        held("in no shop", 0, ACTS, x -> x.watch(3, 0) ? 1 : 0, new ShopEyes(), new ShopEyes());
        held("in no shop", -1, ACTS, x -> x.mirror(0, 1), new ShopEyes(), new ShopEyes());
        held("in no shop", -1, TOLD, x -> x.miss(0, 1), new ShopEyes(), new ShopEyes());
    }
}
