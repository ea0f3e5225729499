import java.util.ArrayList;
import java.util.List;

/** All that can be seen of an object, so that two of them can be held against each other. */
final class Looks {
    /** Which of the answers is the place of the latest FAULT. */
    static final int PLACE = 16;
    private static final int STATUS = 16;
    private static final int MOST_ACTS = 40;

    private Looks() {
    }

    /** All answers that change nothing, but for the refused calls. */
    static List<Long> at(ShopEyes x) {
        List<Long> seen = new ArrayList<>();
        for (int what = 0; what < STATUS; what++) {
            seen.add((long) x.count(what));
        }
        seen.add((long) x.fault());
        for (int a = 0; a < x.count(0); a++) {
            int aisle = a;
            for (int what = 0; what < 4; what++) {
                seen.add((long) x.aisle(a, what));
            }
            seen.add((long) x.far(0, a));
            seen.add(Check.ask(() -> x.laid(aisle)));
        }
        for (int p = 0; p < x.count(3); p++) {
            for (int what = 0; what < 5; what++) {
                seen.add((long) x.person(p, what));
            }
            seen.add((long) x.has(p, 4));
            seen.add((long) x.where(p, 4));
        }
        for (int what = 0; what < 8; what++) {
            seen.add((long) x.day(what));
        }
        for (int minute = 1; minute < 7; minute++) {
            seen.add((long) x.eyes(minute));
        }
        for (int coat = 0; coat < 10; coat++) {
            seen.add((long) x.odds(coat, 0) * 100 + x.odds(coat, 1));
        }
        for (int i = -1; i < x.count(14); i++) {
            seen.add((long) x.who(i));
        }
        return seen;
    }

    /** The same to look at now, act by act undone, and with the image restored. */
    static void same(String what, ShopEyes x, ShopEyes twin) {
        Check.due(what + ": as it was " + at(x) + " " + at(twin), true, at(x).equals(at(twin)));
        int left = MOST_ACTS;
        for (int i = 0; i <= MOST_ACTS && left >= 0; i++) {
            left = twin.undo();
            Check.due(what + ": undo", left, x.undo());
        }
        Check.due(what + ": undone", true, at(x).equals(at(twin)));
        Check.due(what + ": restore", twin.restore(), x.restore());
        Check.due(what + ": restored", true, at(x).equals(at(twin)));
    }
}
