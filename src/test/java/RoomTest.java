import java.lang.management.ManagementFactory;
import java.util.Random;

/** All calls of a run live in one room: what they make is counted; no call throws but by its own word. */
public final class RoomTest {
    private static final int RUNS = 400;
    private static final int CALLS = 512;
    // A new object's rows: some ten thousand elements.
    private static final long MOST_MADE = 60_000;
    // What a run of calls may make is its exceptions alone, some of which the machine itself adds to.
    private static final long MOST_IN_RUN = 1_000_000;
    private static final int[] FAR_OFF = {Integer.MIN_VALUE, Integer.MIN_VALUE + 1, -1000, -2, -1, 10, 11, 12, 30, 31, 32, 59,
        60, 61, 62, 96, 99, 100, 700, 999, 1000, 65536, Integer.MAX_VALUE - 1, Integer.MAX_VALUE};
    private static final String DEAR = "aisle 9 0;aisle 8 99;aisle 7 99;aisle 6 99;aisle 5 99;way 0 1;way 0 2;way 0 3;way 0 4;"
        + "buyer 9 0 1 0 1 0;" + "lapse 1 2 0 0 1 0;".repeat(7)
        + "rule ((coat+here*took-far/worth<crowd)+minute)*0;rule coat-1000+(((((here)))));";

    private final Random dice;
    private final ShopEyes x = new ShopEyes();

    private RoomTest(int seed) {
        dice = new Random(seed);
    }

    public static void main(String[] args) {
        room();
        for (int seed = 0; seed < RUNS; seed++) {
            new RoomTest(seed).run();
        }
        Check.end("RoomTest");
    }

    private static long made() {
        return ((com.sun.management.ThreadMXBean) ManagementFactory.getThreadMXBean()).getCurrentThreadAllocatedBytes();
    }

    private static void room() {
        new ShopEyes();
        long before = made();
        ShopEyes x = new ShopEyes();
        long made = made() - before;
        Check.due("a new object makes " + made + " bytes", true, made < MOST_MADE);
        Check.feed(x, DEAR);
        Check.due("dear", 0, x.shop(DEAR.length()));
        allOf(x);
        before = made();
        for (int i = 0; i < 20; i++) {
            allOf(x);
        }
        long more = made() - before;
        Check.due("calls make " + more + " bytes", true, more < 20_000);
    }

    private static void allOf(ShopEyes x) {
        x.lay();
        x.weeks(5, 30, 0);
        x.best(0, 0);
        x.best(1, 1);
        x.best(2, 0);
        x.glass(0);
        x.without(1);
        x.cost(true);
        x.watch(1, 1);
        x.day(0);
        x.watch(1, 0);
        x.eyes(3);
        x.has(1, 1);
        x.days(30);
        x.undo();
        x.sign(3, true);
        x.odds(1, 0);
        x.line();
        x.gate(3, 50, 9, 1, 1);
        x.miss(1, 60);
        x.who(-1);
        x.game(0);
        x.game(3);
        x.image();
        x.restore();
        Check.feed(x, DEAR);
        x.shop(DEAR.length());
    }

    private void run() {
        long before = made();
        for (int i = 0; i < CALLS; i++) {
            call(dice.nextInt(36));
        }
        long made = made() - before;
        Check.due("a run makes " + made + " bytes", true, made < MOST_IN_RUN);
        Check.due("the tape", true, x.count(15) >= 0 && x.count(15) <= 700);
    }

    private int any() {
        return dice.nextInt(5) == 0 ? FAR_OFF[dice.nextInt(FAR_OFF.length)] : dice.nextInt(9);
    }

    private int bytes() {
        String some = "aisle 1 2;way 0 1;mirror 0 1;thief 1 1 1 0 1 0;rule((coat<far)or not 1);notice 3;stops 2;\n 9999";
        int from = dice.nextInt(some.length() - 4);
        int row = 0;
        for (int i = 0; i < 4; i++) {
            row = row << 8 | (dice.nextInt(30) == 0 ? dice.nextInt(256) : some.charAt(from + i));
        }
        return row;
    }

    private void tell() {
        if (dice.nextInt(4) == 0) {
            x.feed(bytes(), bytes(), bytes(), bytes(), bytes());
        } else {
            Check.feed(x, "aisle 3 4;aisle 5 6;way 0 1;lapse 1 2 3 0 1 0;thief 2 1 1 0 0 1 1 1 0;rule took+coat;");
        }
        if (dice.nextInt(3) == 0) {
            ask(() -> x.shop(dice.nextInt(3) == 0 ? any() : x.count(15)));
        }
    }

    /** Any answer but an exception that the machine throws by itself: Check.ask lets that one through. */
    private void ask(Check.Call call) {
        Check.due("an answer", true, Check.ask(call) != Long.MAX_VALUE);
    }

    private void call(int which) {
        int a = any();
        int b = any();
        int c = any();
        switch (which) {
            case 0, 1 -> tell();
            case 2 -> ask(x::fault);
            case 3 -> ask(() -> x.count(dice.nextInt(3) == 0 ? a : dice.nextInt(19)));
            case 4 -> ask(() -> x.aisle(a, b));
            case 5 -> ask(() -> x.person(a, b));
            case 6 -> ask(() -> x.route(a, b));
            case 7 -> ask(() -> x.far(a, b));
            case 8 -> ask(() -> x.watch(a, b) ? 1 : 0);
            case 9 -> ask(() -> x.open(dice.nextBoolean()) ? 1 : 0);
            case 10 -> ask(() -> x.stops(a));
            case 11 -> ask(() -> x.mirror(a, b));
            case 12 -> ask(() -> x.stock(a, b));
            case 13 -> ask(() -> x.days(a));
            case 14 -> ask(x::undo);
            case 15 -> ask(() -> x.day(a));
            case 16 -> ask(() -> x.where(a, b));
            case 17 -> ask(() -> x.eyes(a));
            case 18 -> ask(() -> x.has(a, b));
            case 19 -> ask(() -> x.best(a, b));
            case 20 -> ask(() -> x.cost(dice.nextBoolean()));
            case 21 -> ask(() -> x.glass(a));
            case 22 -> ask(x::lay);
            case 23 -> ask(() -> x.laid(a));
            case 24 -> ask(() -> x.without(a));
            case 25 -> ask(() -> x.sign(a, dice.nextBoolean()));
            case 26 -> ask(() -> x.odds(a, b));
            case 27 -> ask(x::line);
            case 28 -> ask(() -> x.gate(a, b, c, dice.nextInt(12), dice.nextInt(3)));
            case 29 -> ask(() -> x.miss(a, b));
            case 30 -> {
                if (dice.nextInt(9) == 0) {
                    x.forget();
                }
            }
            case 31 -> ask(() -> x.who(a));
            case 32 -> ask(() -> x.game(a));
            case 33 -> ask(() -> x.weeks(dice.nextInt(), b, c));
            case 34 -> x.image();
            default -> ask(() -> x.restore() ? 1 : 0);
        }
    }
}
