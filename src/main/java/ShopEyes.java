import java.util.NoSuchElementException;

/** A shop, its people and the detective who watches them: README.md tells how it is used. */
public final class ShopEyes {
    public static final int NONE = -1;

    private static final int MOST_BYTES = 700;
    private static final int FED_BYTES = 20;
    private static final int MOST_AISLES = 10;
    private static final int MOST_WAYS = 16;
    private static final int MOST_MIRRORS = 6;
    private static final int MOST_PEOPLE = 8;
    private static final int MOST_STEPS = 12;
    private static final int MOST_RULES = 4;
    private static final int MOST_ACTS = 40;
    private static final int MOST_SIGNS = 12;
    private static final int MOST_MISSING = 8;
    private static final int MOST_LAID = 5;
    private static final int MOST_ORDERS = 120;
    private static final int MOST_DAYS = 30;
    private static final int MOST_STOCK = 99;
    private static final int MOST_COAT = 9;
    private static final int MINUTES = 60;
    private static final int TENTHS = 10;
    private static final int SPENT = -2;

    private static final int BUYER = 0;
    private static final int THIEF = 1;
    private static final int LAPSE = 2;
    private static final int STAFF = 3;

    private static final int NO_STOPS = 0;
    private static final int BY_PROOF = 1;
    private static final int BY_SIGHT = 2;

    private static final int BY_NOBODY = 0;
    private static final int BY_RULE = 1;
    private static final int BY_PERSON = 2;
    private static final int BY_AISLE = 3;

    private static final int TEXTS = 0;
    private static final int ACTS = 1;
    private static final int TOLD = 2;

    private static final int COST = 0;
    private static final int LOST = 1;
    private static final int CAUGHT = 2;
    private static final int FALSE_ONES = 3;
    private static final int PAID = 4;
    private static final int SEEN_TAKING = 5;
    private static final int NOTICED = 6;
    private static final int WHO_IS_CAUGHT = 7;
    private static final int RESULTS = 8;

    private static final int IS_COAT = 0;
    private static final int IS_HERE = 1;
    private static final int IS_TOOK = 2;
    private static final int IS_FAR = 3;
    private static final int IS_WORTH = 4;
    private static final int IS_CROWD = 5;
    private static final int IS_MINUTE = 6;
    private static final int VALUES = 7;

    private int fed = 0;
    private int faultPlace = NONE;
    private Shop shop = new Shop();
    private final Reader reader = new Reader();
    private final State now = new State();
    private final State picture = new State();
    private boolean hasPicture = false;
    private final Day today = new Day(shop);
    private final Day trial = new Day(shop);
    private boolean todayKnown = false;
    private final int[] order = new int[MOST_LAID];
    private final int[] laidRow = new int[MOST_LAID];
    private boolean hasLaid = false;
    private final int[] suspects = new int[MOST_MISSING];

    public ShopEyes() {
    }

    public int feed(int a, int b, int c, int d, int e) {
        if (fed + FED_BYTES > MOST_BYTES) {
            return NONE;
        }
        tellBytes(a);
        tellBytes(b);
        tellBytes(c);
        tellBytes(d);
        tellBytes(e);
        return fed;
    }

    private void tellBytes(int number) {
        for (int shift = 24; shift >= 0; shift -= 8) {
            put(reader.tape, fed, number >> shift & 255);
            fed++;
        }
    }

    public int shop(int n) throws IllegalArgumentException {
        if (n < 0 || n > fed) {
            throw new IllegalArgumentException();
        }
        int found = reader.read(n);
        fed = 0;
        if (found != 0) {
            faultPlace = reader.place;
            now.refuse(TEXTS);
            return found;
        }
        faultPlace = NONE;
        shop = reader.changeFor(shop);
        now.begin(shop);
        hasPicture = false;
        hasLaid = false;
        todayKnown = false;
        return 0;
    }

    public int fault() {
        return faultPlace;
    }

    public int count(int what) throws NoSuchElementException {
        switch (what) {
            case 0: return shop.floor.aisles;
            case 1: return shop.floor.ways;
            case 2: return now.mirrors;
            case 3: return shop.people.many;
            case 4: return shop.rules.many;
            case 5: return shop.notice;
            case 6: return shop.wrong;
            case 7: return now.stops;
            case 8: return now.how;
            case 9: return now.which;
            case 10: return now.open;
            case 11: return now.days;
            case 12: return now.acts;
            case 13: return now.signs;
            case 14: return now.missing;
            case 15: return fed;
            case 16:
            case 17:
            case 18: return at(now.refused, what - 16);
            default: throw new NoSuchElementException();
        }
    }

    public int aisle(int aisle, int what) throws NoSuchElementException {
        needAisle(aisle);
        switch (what) {
            case 0: return at(shop.floor.worth, aisle);
            case 1: return at(now.stock, aisle);
            case 2: return at(shop.floor.joined, aisle);
            case 3: return at(now.seen, aisle);
            default: throw new NoSuchElementException();
        }
    }

    public int person(int person, int what) throws NoSuchElementException {
        needPerson(person);
        switch (what) {
            case 0: return at(shop.people.sort, person);
            case 1: return at(shop.people.comes, person);
            case 2: return at(shop.people.takes, person);
            case 3: return at(shop.people.coat, person);
            case 4: return at(shop.people.length, person);
            default: throw new NoSuchElementException();
        }
    }

    public int route(int person, int i) throws NoSuchElementException {
        needPerson(person);
        if (i < 0 || i >= at(shop.people.length, person)) {
            throw new NoSuchElementException();
        }
        return shop.people.stepOf(person, i);
    }

    public int far(int aisle, int other) throws NoSuchElementException {
        needAisle(aisle);
        needAisle(other);
        int ways = shop.floor.between(aisle, other);
        return ways == Floor.NO_WAY ? NONE : ways;
    }

    public boolean watch(int how, int which) {
        if (!canWatch(how, which)) {
            now.refuse(ACTS);
            return false;
        }
        beginAct();
        now.how = how;
        now.which = how == BY_NOBODY ? 0 : which;
        return true;
    }

    private boolean canWatch(int how, int which) {
        switch (how) {
            case BY_NOBODY: return true;
            case BY_RULE: return which >= 0 && which < shop.rules.many;
            case BY_PERSON: return shop.people.hasPerson(which);
            case BY_AISLE: return shop.floor.hasAisle(which);
            default: return false;
        }
    }

    public boolean open(boolean open) {
        boolean before = now.open == 1;
        beginAct();
        now.open = open ? 1 : 0;
        return before;
    }

    public int stops(int stops) {
        if (stops < NO_STOPS || stops > BY_SIGHT) {
            now.refuse(ACTS);
            return NONE;
        }
        int before = now.stops;
        beginAct();
        now.stops = stops;
        return before;
    }

    public int mirror(int aisle, int other) {
        if (now.mirrors >= MOST_MIRRORS || !canHang(aisle, other)) {
            now.refuse(ACTS);
            return NONE;
        }
        beginAct();
        put(now.seen, aisle, at(now.seen, aisle) | bit(other));
        now.mirrors++;
        return now.mirrors;
    }

    private boolean canHang(int aisle, int other) {
        return shop.floor.hasAisle(aisle) && shop.floor.hasAisle(other)
            && aisle != other && !holds(at(now.seen, aisle), other);
    }

    public int stock(int aisle, int stock) throws NoSuchElementException {
        needAisle(aisle);
        if (stock < 0 || stock > MOST_STOCK) {
            now.refuse(ACTS);
            return NONE;
        }
        int before = at(now.stock, aisle);
        beginAct();
        put(now.stock, aisle, stock);
        return before;
    }

    public int days(int many) {
        if (many < 1 || many > MOST_DAYS) {
            now.refuse(ACTS);
            return NONE;
        }
        beginAct();
        trial.prepare(shop, now);
        int sum = 0;
        for (int i = 0; i < many; i++) {
            sum += trial.run();
        }
        copyRow(trial.stock, now.stock);
        now.days += many;
        return sum;
    }

    public int undo() {
        if (now.acts <= 0) {
            return NONE;
        }
        now.undoLast();
        todayKnown = false;
        return now.acts;
    }

    public int day(int what) throws NoSuchElementException {
        if (what < 0 || what >= RESULTS) {
            throw new NoSuchElementException();
        }
        knowToday();
        return at(today.result, what);
    }

    public int where(int person, int minute) throws NoSuchElementException {
        needPerson(person);
        needMinute(minute);
        return shop.people.placeIn(person, minute);
    }

    public int eyes(int minute) throws NoSuchElementException {
        needMinute(minute);
        knowToday();
        return at(today.spots, minute);
    }

    public int has(int person, int minute) throws NoSuchElementException {
        needPerson(person);
        needMinute(minute);
        knowToday();
        return at(today.things, minute * MOST_PEOPLE + person);
    }

    public int best(int by, int what) throws NoSuchElementException {
        if (by < 0 || by > 2 || what < 0 || what > 1) {
            throw new NoSuchElementException();
        }
        int how = by == 0 ? BY_AISLE : by == 1 ? BY_PERSON : BY_RULE;
        int many = by == 0 ? shop.floor.aisles : by == 1 ? shop.people.many : shop.rules.many;
        int which = NONE;
        int least = NONE;
        // No COST is below 0: what is found at 0 is the first of like ones, and the search ends (so in glass and lay).
        for (int i = 0; i < many && least != 0; i++) {
            int cost = costWatched(how, i);
            if (least == NONE || cost < least) {
                which = i;
                least = cost;
            }
        }
        if (how == BY_RULE && least != 0) {
            int unwatched = costWatched(BY_NOBODY, 0);
            if (least == NONE || unwatched < least) {
                which = NONE;
                least = unwatched;
            }
        }
        return what == 0 ? which : least;
    }

    private int costWatched(int how, int which) {
        trial.prepare(shop, now);
        trial.how = how;
        trial.which = which;
        return trial.run();
    }

    public int cost(boolean open) {
        trial.prepare(shop, now);
        trial.open = open ? 1 : 0;
        return trial.run();
    }

    public int glass(int what) throws NoSuchElementException {
        if (what < 0 || what > 1) {
            throw new NoSuchElementException();
        }
        if (now.mirrors >= MOST_MIRRORS) {
            return NONE;
        }
        knowToday();
        int couple = NONE;
        int least = at(today.result, COST);
        for (int aisle = 0; aisle < shop.floor.aisles; aisle++) {
            for (int other = 0; other < shop.floor.aisles && least != 0; other++) {
                int cost = canHang(aisle, other) ? costMirrored(aisle, other) : least;
                if (cost < least) {
                    couple = 10 * aisle + other;
                    least = cost;
                }
            }
        }
        return couple == NONE || what == 0 ? couple : least;
    }

    private int costMirrored(int aisle, int other) {
        trial.prepare(shop, now);
        put(trial.seen, aisle, at(trial.seen, aisle) | bit(other));
        return trial.run();
    }

    public int lay() {
        int aisles = shop.floor.aisles;
        if (aisles > MOST_LAID) {
            return SPENT;
        }
        for (int i = 0; i < aisles; i++) {
            put(order, i, i);
        }
        int least = NONE;
        boolean more = true;
        for (int i = 0; i < MOST_ORDERS && more && least != 0; i++) {
            int cost = costLaid(aisles);
            if (least == NONE || cost < least) {
                least = cost;
                copyRow(order, laidRow);
            }
            more = nextOrder(order, aisles);
        }
        hasLaid = true;
        return least;
    }

    private int costLaid(int aisles) {
        trial.prepare(shop, now);
        for (int i = 0; i < aisles; i++) {
            put(trial.worth, i, at(shop.floor.worth, at(order, i)));
        }
        return trial.run();
    }

    /** Makes the row the next one of its orders; false behind the last one. */
    private static boolean nextOrder(int[] row, int n) {
        int rise = n - 2;
        while (rise >= 0 && at(row, rise) >= at(row, rise + 1)) {
            rise--;
        }
        if (rise < 0) {
            return false;
        }
        int above = n - 1;
        while (above > rise && at(row, above) <= at(row, rise)) {
            above--;
        }
        swap(row, rise, above);
        for (int i = rise + 1, k = n - 1; i < k; i++, k--) {
            swap(row, i, k);
        }
        return true;
    }

    private static void swap(int[] row, int i, int k) {
        int first = at(row, i);
        put(row, i, at(row, k));
        put(row, k, first);
    }

    public int laid(int aisle) throws NoSuchElementException {
        needAisle(aisle);
        if (!hasLaid) {
            throw new NoSuchElementException();
        }
        return at(laidRow, aisle);
    }

    public int without(int person) throws NoSuchElementException {
        needPerson(person);
        trial.prepare(shop, now);
        trial.away = bit(person);
        return trial.run();
    }

    public int sign(int coat, boolean had) {
        if (now.signs >= MOST_SIGNS || coat < 0 || coat > MOST_COAT) {
            now.refuse(TOLD);
            return NONE;
        }
        put(now.signCoat, now.signs, coat);
        put(now.signHad, now.signs, had ? 1 : 0);
        now.signs++;
        return now.signs;
    }

    public int odds(int coat, int what) throws NoSuchElementException, IllegalArgumentException {
        if (what < 0 || what > 1) {
            throw new NoSuchElementException();
        }
        if (coat < 0 || coat > MOST_COAT) {
            throw new IllegalArgumentException();
        }
        return fraction(now.hadFrom(coat), now.toldFrom(coat), what);
    }

    /** The upper (what 0) or lower part of a fraction in lowest terms; none of none is 0 by 1. */
    private static int fraction(int upper, int lower, int what) {
        int one = upper;
        int other = lower;
        for (int i = 0; i < 64 && other != 0; i++) {
            int rest = one % other;
            one = other;
            other = rest;
        }
        if (lower == 0 || one == 0) {
            return what;
        }
        return (what == 0 ? upper : lower) / one;
    }

    public int line() {
        for (int coat = 0; coat <= MOST_COAT; coat++) {
            int had = now.hadFrom(coat);
            if (had > now.toldFrom(coat) - had) {
                return coat;
            }
        }
        return NONE;
    }

    public int gate(int have, int all, int beeps, int wrongly, int what)
            throws NoSuchElementException, IllegalArgumentException {
        if (what < 0 || what > 1) {
            throw new NoSuchElementException();
        }
        if (all < 1 || all > 99 || have < 0 || have > all
                || beeps < 0 || beeps > TENTHS || wrongly < 0 || wrongly > TENTHS) {
            throw new IllegalArgumentException();
        }
        int rightly = have * beeps;
        return fraction(rightly, rightly + (all - have) * wrongly, what);
    }

    public int miss(int aisle, int minute) {
        if (now.missing >= MOST_MISSING || !shop.floor.hasAisle(aisle) || !isMinute(minute)) {
            now.refuse(TOLD);
            return NONE;
        }
        put(now.missAisle, now.missing, aisle);
        put(now.missMinute, now.missing, minute);
        now.missing++;
        return now.missing;
    }

    public void forget() {
        now.signs = 0;
        now.missing = 0;
    }

    public int who(int i) throws NoSuchElementException {
        if (i < NONE || i >= now.missing) {
            throw new NoSuchElementException();
        }
        return i == NONE ? fewest() : canHave(i);
    }

    private int canHave(int i) {
        int aisle = at(now.missAisle, i);
        int last = at(now.missMinute, i);
        int found = 0;
        for (int p = 0; p < shop.people.many; p++) {
            for (int minute = 1; minute <= last; minute++) {
                if (shop.people.placeIn(p, minute) == aisle) {
                    found |= bit(p);
                }
            }
        }
        return found;
    }

    private int fewest() {
        for (int i = 0; i < now.missing; i++) {
            put(suspects, i, canHave(i));
        }
        int found = NONE;
        int least = MOST_PEOPLE + 1;
        for (int some = 0; some < bit(shop.people.many); some++) {
            if (Integer.bitCount(some) < least && explains(some)) {
                found = some;
                least = Integer.bitCount(some);
            }
        }
        return found;
    }

    private boolean explains(int some) {
        for (int i = 0; i < now.missing; i++) {
            if ((at(suspects, i) & some) == 0) {
                return false;
            }
        }
        return true;
    }

    public int game(int what) throws NoSuchElementException {
        if (what < 0 || what > 3) {
            throw new NoSuchElementException();
        }
        return what < 2 ? resting(what) : safest(what);
    }

    private int resting(int what) {
        int many = 0;
        int first = NONE;
        for (int thief = 0; thief < shop.floor.aisles; thief++) {
            for (int eye = 0; eye < shop.floor.aisles; eye++) {
                if (rests(thief, eye)) {
                    many++;
                    first = first == NONE ? 10 * thief + eye : first;
                }
            }
        }
        return what == 0 ? many : first;
    }

    private boolean rests(int thief, int eye) {
        int gain = gain(thief, eye);
        for (int a = 0; a < shop.floor.aisles; a++) {
            if (gain(a, eye) > gain || gain(thief, a) < gain) {
                return false;
            }
        }
        return true;
    }

    /** What the thief gains, and the detective loses. */
    private int gain(int thief, int eye) {
        boolean caught = thief == eye || holds(at(now.seen, eye), thief);
        return caught ? -(shop.wrong / 10) : at(shop.floor.worth, thief);
    }

    private int safest(int what) {
        if (shop.floor.aisles == 0) {
            return NONE;
        }
        int safe = 0;
        int least = mostGain(0);
        for (int eye = 1; eye < shop.floor.aisles; eye++) {
            int most = mostGain(eye);
            if (most < least) {
                safe = eye;
                least = most;
            }
        }
        return what == 2 ? safe : least;
    }

    private int mostGain(int eye) {
        int most = gain(0, eye);
        for (int thief = 1; thief < shop.floor.aisles; thief++) {
            most = Math.max(most, gain(thief, eye));
        }
        return most;
    }

    public int weeks(int seed, int n, int what) throws NoSuchElementException, IllegalArgumentException {
        if (what < 0 || what > 2) {
            throw new NoSuchElementException();
        }
        if (n < 0 || n > MOST_DAYS) {
            throw new IllegalArgumentException();
        }
        trial.prepare(shop, now);
        int drawn = seed;
        int sum = 0;
        int most = 0;
        int things = 0;
        for (int i = 0; i < n; i++) {
            trial.away = 0;
            for (int p = 0; p < shop.people.many; p++) {
                drawn = drawn * 1103515245 + 12345;
                if ((drawn >>> 16 & 32767) % 2 == 0) {
                    trial.away |= bit(p);
                }
            }
            int cost = trial.run();
            sum += cost;
            most = Math.max(most, cost);
            things += at(trial.result, LOST);
        }
        return what == 0 ? sum : what == 1 ? most : things;
    }

    public void image() {
        picture.copy(now);
        hasPicture = true;
    }

    public boolean restore() {
        if (!hasPicture) {
            return false;
        }
        now.copy(picture);
        todayKnown = false;
        return true;
    }

    private void beginAct() {
        now.keepAct();
        todayKnown = false;
    }

    private void knowToday() {
        if (!todayKnown) {
            today.prepare(shop, now);
            today.run();
            todayKnown = true;
        }
    }

    private void needAisle(int aisle) {
        if (!shop.floor.hasAisle(aisle)) {
            throw new NoSuchElementException();
        }
    }

    private void needPerson(int person) {
        if (!shop.people.hasPerson(person)) {
            throw new NoSuchElementException();
        }
    }

    private static void needMinute(int minute) {
        if (!isMinute(minute)) {
            throw new NoSuchElementException();
        }
    }

    private static boolean isMinute(int minute) {
        return minute >= 1 && minute <= MINUTES;
    }

    /** All rows are read here, so that no index is used untested; outside of a row is 0. */
    private static int at(int[] row, int i) {
        return i >= 0 && i < row.length ? row[i] : 0;
    }

    /** All rows are written here, so that no index is used untested. */
    private static void put(int[] row, int i, int value) {
        if (i >= 0 && i < row.length) {
            row[i] = value;
        }
    }

    private static void fillRow(int[] row, int value) {
        for (int i = 0; i < row.length; i++) {
            row[i] = value;
        }
    }

    private static void copyRow(int[] from, int[] to) {
        System.arraycopy(from, 0, to, 0, Math.min(from.length, to.length));
    }

    private static int bit(int i) {
        return 1 << i;
    }

    private static boolean holds(int bits, int i) {
        return i >= 0 && i < 32 && (bits >> i & 1) != 0;
    }

    /** The aisles, and what joins and mirrors them, as a TEXT tells it. */
    private static final class Floor {
        private static final int NO_WAY = 99;

        private int aisles = 0;
        private int ways = 0;
        private int mirrors = 0;
        private final int[] worth = new int[MOST_AISLES];
        private final int[] stock = new int[MOST_AISLES];
        private final int[] joined = new int[MOST_AISLES];
        private final int[] seen = new int[MOST_AISLES];
        private final int[] apart = new int[MOST_AISLES * MOST_AISLES];

        private void clear() {
            aisles = 0;
            ways = 0;
            mirrors = 0;
            fillRow(joined, 0);
            fillRow(seen, 0);
        }

        private boolean hasAisle(int aisle) {
            return aisle >= 0 && aisle < aisles;
        }

        private boolean joins(int aisle, int other) {
            return holds(at(joined, aisle), other);
        }

        private void addAisle(int itsWorth, int itsStock) {
            put(worth, aisles, itsWorth);
            put(stock, aisles, itsStock);
            aisles++;
        }

        private void addWay(int aisle, int other) {
            put(joined, aisle, at(joined, aisle) | bit(other));
            put(joined, other, at(joined, other) | bit(aisle));
            ways++;
        }

        private void addMirror(int aisle, int other) {
            put(seen, aisle, at(seen, aisle) | bit(other));
            mirrors++;
        }

        private void measure() {
            for (int a = 0; a < aisles; a++) {
                for (int b = 0; b < aisles; b++) {
                    put(apart, a * MOST_AISLES + b, a == b ? 0 : joins(a, b) ? 1 : NO_WAY);
                }
            }
            for (int over = 0; over < aisles; over++) {
                for (int a = 0; a < aisles; a++) {
                    for (int b = 0; b < aisles; b++) {
                        int ways = between(a, over) + between(over, b);
                        put(apart, a * MOST_AISLES + b, Math.min(between(a, b), ways));
                    }
                }
            }
        }

        private int between(int aisle, int other) {
            return at(apart, aisle * MOST_AISLES + other);
        }

        /** The aisle one way nearer to a goal; the same one, if it is the goal or has no way to it. */
        private int nearer(int from, int goal) {
            int left = between(from, goal);
            for (int a = 0; a < aisles && left != NO_WAY; a++) {
                if (joins(from, a) && between(a, goal) < left) {
                    return a;
                }
            }
            return from;
        }
    }

    /** Who comes, when, and on which route. */
    private static final class People {
        private int many = 0;
        private final int[] sort = new int[MOST_PEOPLE];
        private final int[] comes = new int[MOST_PEOPLE];
        private final int[] takes = new int[MOST_PEOPLE];
        private final int[] coat = new int[MOST_PEOPLE];
        private final int[] length = new int[MOST_PEOPLE];
        private final int[] steps = new int[MOST_PEOPLE * MOST_STEPS];

        private boolean hasPerson(int p) {
            return p >= 0 && p < many;
        }

        private int stepOf(int p, int i) {
            return at(steps, p * MOST_STEPS + i);
        }

        private int lastStep(int p) {
            return stepOf(p, at(length, p) - 1);
        }

        private int placeIn(int p, int minute) {
            int i = minute - at(comes, p);
            if (i < 0) {
                return NONE;
            }
            if (i < at(length, p)) {
                return stepOf(p, i);
            }
            return lastStep(p) == 0 ? NONE : lastStep(p);
        }

        private boolean leavesIn(int p, int minute) {
            return minute == at(comes, p) + at(length, p) && lastStep(p) == 0;
        }

        private boolean comesToTake(int p, int minute) {
            return at(takes, p) > 0 && minute == at(comes, p) + at(takes, p) - 1;
        }
    }

    /** The rules, each as a row of signs in which what is joined stands ahead of what joins it. */
    private static final class Rules {
        private static final int FIRST_VALUE = -1;
        private static final int OR = -10;
        private static final int AND = -11;
        private static final int NOT = -12;
        private static final int LESS = -13;
        private static final int SAME = -14;
        private static final int PLUS = -15;
        private static final int MINUS = -16;
        private static final int TIMES = -17;
        private static final int BY = -18;

        // Six expressions within one another leave at most five parts waiting in each.
        private static final int MOST_WAITING = 40;

        private int many = 0;
        private int used = 0;
        private final int[] end = new int[MOST_RULES];
        private final int[] signs = new int[MOST_BYTES];
        private final int[] waiting = new int[MOST_WAITING];
        private int top = 0;

        private void clear() {
            many = 0;
            used = 0;
        }

        private void add(int sign) {
            put(signs, used, sign);
            used++;
        }

        private void endRule() {
            put(end, many, used);
            many++;
        }

        private int valueOf(int rule, int[] values) {
            int from = rule > 0 ? at(end, rule - 1) : 0;
            int to = at(end, rule);
            top = 0;
            for (int i = from; i < to; i++) {
                int sign = at(signs, i);
                if (sign >= 0) {
                    push(sign);
                } else if (sign > OR) {
                    push(at(values, FIRST_VALUE - sign));
                } else if (sign == NOT) {
                    push(pop() == 0 ? 1 : 0);
                } else {
                    int second = pop();
                    push(join(sign, pop(), second));
                }
            }
            return pop();
        }

        private void push(int value) {
            put(waiting, top, value);
            top++;
        }

        private int pop() {
            top--;
            return at(waiting, top);
        }

        private static int join(int sign, int a, int b) {
            switch (sign) {
                case OR: return a != 0 || b != 0 ? 1 : 0;
                case AND: return a != 0 && b != 0 ? 1 : 0;
                case LESS: return a < b ? 1 : 0;
                case SAME: return a == b ? 1 : 0;
                case PLUS: return a + b;
                case MINUS: return a - b;
                case TIMES: return a * b;
                default: return b == 0 ? 0 : a / b;
            }
        }
    }

    /** All that a TEXT tells. */
    private static final class Shop {
        private final Floor floor = new Floor();
        private final People people = new People();
        private final Rules rules = new Rules();
        private int notice = 3;
        private int wrong = 400;
        private int stops = BY_PROOF;

        private void clear() {
            floor.clear();
            people.many = 0;
            rules.clear();
            notice = 3;
            wrong = 400;
            stops = BY_PROOF;
        }
    }

    /** Reads a TEXT into a shop; the first FAULT ends it. */
    private static final class Reader {
        private static final int END = 0;
        private static final int WORD = 1;
        private static final int NUMBER = 2;
        private static final int SIGN = 3;

        private static final int STRANGE = 1;
        private static final int TOO_MUCH = 2;
        private static final int UNKNOWN = 3;
        private static final int TWICE = 4;
        private static final int AGAIN = 5;
        private static final int NO_ROUTE = 6;

        private static final int MOST_DIGITS = 4;
        private static final int MOST_NUMBER = 9999;
        private static final int TOO_LONG = 10000;
        private static final int MOST_NOTS = 6;
        private static final int MOST_WITHIN = 6;

        private static final int NOTICE_TOLD = 1;
        private static final int FALSE_TOLD = 2;
        private static final int STOPS_TOLD = 4;

        private final int[] tape = new int[MOST_BYTES];
        private Shop told = new Shop();
        private int length = 0;
        private int kind = END;
        private int start = 0;
        private int next = 0;
        private int value = 0;
        private int settings = 0;
        private int fault = 0;
        private int place = NONE;

        /** Hands out the shop that was read, and takes another one to read the next into. */
        private Shop changeFor(Shop other) {
            Shop done = told;
            told = other;
            return done;
        }

        /** The FAULT of the first n bytes (its place is kept), or 0: then they are the shop told. */
        private int read(int n) {
            told.clear();
            length = n;
            next = 0;
            settings = 0;
            fault = 0;
            place = NONE;
            readToken();
            for (int i = 0; i <= n && fault == 0 && kind != END; i++) {
                readLine();
            }
            told.floor.measure();
            return fault;
        }

        private void fail(int what) {
            if (fault == 0) {
                fault = what;
                place = start;
            }
        }

        private void readToken() {
            int i = next;
            while (i < length && isBlank(at(tape, i))) {
                i++;
            }
            start = i;
            value = 0;
            int first = at(tape, i);
            if (i >= length) {
                kind = END;
            } else if (isLetter(first)) {
                kind = WORD;
                while (i < length && isLetter(at(tape, i))) {
                    i++;
                }
            } else if (isDigit(first)) {
                kind = NUMBER;
                while (i < length && isDigit(at(tape, i))) {
                    value = i - start < MOST_DIGITS ? value * 10 + at(tape, i) - '0' : TOO_LONG;
                    i++;
                }
            } else {
                kind = SIGN;
                value = first;
                i++;
            }
            next = i;
        }

        private static boolean isBlank(int c) {
            return c == 32 || c == 10;
        }

        private static boolean isLetter(int c) {
            return c >= 'a' && c <= 'z';
        }

        private static boolean isDigit(int c) {
            return c >= '0' && c <= '9';
        }

        private boolean isSign(int c) {
            return kind == SIGN && value == c;
        }

        private boolean isWord(String word) {
            if (kind != WORD || next - start != word.length()) {
                return false;
            }
            for (int i = 0; i < word.length(); i++) {
                if (at(tape, start + i) != word.charAt(i)) {
                    return false;
                }
            }
            return true;
        }

        private void readLine() {
            int sort = sortTold();
            if (sort != NONE) {
                readPerson(sort);
            } else if (isWord("aisle")) {
                readAisle();
            } else if (isWord("way")) {
                readWay();
            } else if (isWord("mirror")) {
                readMirror();
            } else if (isWord("rule")) {
                readRule();
            } else if (isWord("notice")) {
                told.notice = readSetting(NOTICE_TOLD, 1, 9);
            } else if (isWord("false")) {
                told.wrong = readSetting(FALSE_TOLD, 0, 999);
            } else if (isWord("stops")) {
                told.stops = readSetting(STOPS_TOLD, NO_STOPS, BY_SIGHT);
            } else {
                fail(STRANGE);
            }
            readSign(';');
        }

        private int sortTold() {
            if (isWord("buyer")) {
                return BUYER;
            }
            if (isWord("thief")) {
                return THIEF;
            }
            if (isWord("lapse")) {
                return LAPSE;
            }
            return isWord("staff") ? STAFF : NONE;
        }

        private void readSign(int c) {
            if (isSign(c)) {
                readToken();
            } else {
                fail(STRANGE);
            }
        }

        /** Goes behind the first word of a line, unless there are as many such lines as can be. */
        private void readFirst(int many, int most) {
            if (many >= most) {
                fail(TOO_MUCH);
            } else {
                readToken();
            }
        }

        private int readNumber(int least, int most) {
            int number = value;
            if (kind != NUMBER) {
                fail(STRANGE);
            } else if (number < least || number > most) {
                fail(TOO_MUCH);
            } else {
                readToken();
            }
            return number;
        }

        /** An AISLE told ahead; it is not gone behind, as more may be wrong with it. */
        private int aisleHere() {
            if (kind != NUMBER) {
                fail(STRANGE);
            } else if (value > MOST_NUMBER) {
                fail(TOO_MUCH);
            } else if (!told.floor.hasAisle(value)) {
                fail(UNKNOWN);
            }
            return value;
        }

        private void readAisle() {
            readFirst(told.floor.aisles, MOST_AISLES);
            int worth = readNumber(0, 999);
            int stock = readNumber(0, MOST_STOCK);
            if (fault == 0) {
                told.floor.addAisle(worth, stock);
            }
        }

        private void readWay() {
            readFirst(told.floor.ways, MOST_WAYS);
            int aisle = aisleHere();
            readToken();
            int other = aisleHere();
            if (aisle == other || told.floor.joins(aisle, other)) {
                fail(TWICE);
            }
            if (fault == 0) {
                told.floor.addWay(aisle, other);
                readToken();
            }
        }

        private void readMirror() {
            readFirst(told.floor.mirrors, MOST_MIRRORS);
            int aisle = aisleHere();
            readToken();
            int other = aisleHere();
            if (aisle == other || holds(at(told.floor.seen, aisle), other)) {
                fail(TWICE);
            }
            if (fault == 0) {
                told.floor.addMirror(aisle, other);
                readToken();
            }
        }

        private int readSetting(int which, int least, int most) {
            if ((settings & which) != 0) {
                fail(AGAIN);
            }
            settings |= which;
            readToken();
            return readNumber(least, most);
        }

        private void readPerson(int sort) {
            People people = told.people;
            int p = people.many;
            readFirst(p, MOST_PEOPLE);
            put(people.sort, p, sort);
            put(people.comes, p, readNumber(1, MINUTES));
            // More than this ROUTE has is a fault behind it; more than any can have is one here.
            int takes = readNumber(0, MOST_STEPS);
            put(people.takes, p, takes);
            put(people.coat, p, readNumber(0, MOST_COAT));
            int steps = readRoute(p);
            put(people.length, p, steps);
            if (steps == 0) {
                fail(STRANGE);
            } else if (takes > steps) {
                fail(NO_ROUTE);
            }
            if (fault == 0) {
                people.many++;
            }
        }

        private int readRoute(int p) {
            int steps = 0;
            int before = 0;
            for (int i = 0; i <= MOST_STEPS && fault == 0 && kind == NUMBER; i++) {
                if (i == MOST_STEPS) {
                    fail(TOO_MUCH);
                }
                int aisle = aisleHere();
                boolean reached = aisle == before || steps > 0 && told.floor.joins(before, aisle);
                if (!reached) {
                    fail(NO_ROUTE);
                }
                if (fault == 0) {
                    put(told.people.steps, p * MOST_STEPS + steps, aisle);
                    before = aisle;
                    steps++;
                    readToken();
                }
            }
            return steps;
        }

        private void readRule() {
            readFirst(told.rules.many, MOST_RULES);
            readExpr(0);
            if (fault == 0) {
                told.rules.endRule();
            }
        }

        private void readExpr(int within) {
            if (within >= MOST_WITHIN) {
                fail(kind == NUMBER || kind == WORD || isSign('(') ? TOO_MUCH : STRANGE);
                return;
            }
            readAnd(within);
            for (int i = 0; i < MOST_BYTES && fault == 0 && isWord("or"); i++) {
                readToken();
                readAnd(within);
                told.rules.add(Rules.OR);
            }
        }

        private void readAnd(int within) {
            readNot(within, 0);
            for (int i = 0; i < MOST_BYTES && fault == 0 && isWord("and"); i++) {
                readToken();
                readNot(within, 0);
                told.rules.add(Rules.AND);
            }
        }

        private void readNot(int within, int nots) {
            if (!isWord("not")) {
                readTest(within);
            } else if (nots >= MOST_NOTS) {
                fail(TOO_MUCH);
            } else {
                readToken();
                readNot(within, nots + 1);
                told.rules.add(Rules.NOT);
            }
        }

        private void readTest(int within) {
            readSum(within);
            if (fault == 0 && (isSign('<') || isSign('='))) {
                int sign = isSign('<') ? Rules.LESS : Rules.SAME;
                readToken();
                readSum(within);
                told.rules.add(sign);
            }
        }

        private void readSum(int within) {
            readProduct(within);
            for (int i = 0; i < MOST_BYTES && fault == 0 && (isSign('+') || isSign('-')); i++) {
                int sign = isSign('+') ? Rules.PLUS : Rules.MINUS;
                readToken();
                readProduct(within);
                told.rules.add(sign);
            }
        }

        private void readProduct(int within) {
            readPart(within);
            for (int i = 0; i < MOST_BYTES && fault == 0 && (isSign('*') || isSign('/')); i++) {
                int sign = isSign('*') ? Rules.TIMES : Rules.BY;
                readToken();
                readPart(within);
                told.rules.add(sign);
            }
        }

        private void readPart(int within) {
            if (kind == NUMBER) {
                told.rules.add(readNumber(0, MOST_NUMBER));
            } else if (kind == WORD) {
                readValue(valueTold());
            } else if (isSign('(')) {
                readToken();
                readExpr(within + 1);
                readSign(')');
            } else {
                fail(STRANGE);
            }
        }

        private void readValue(int which) {
            if (which == NONE) {
                fail(UNKNOWN);
            } else {
                told.rules.add(Rules.FIRST_VALUE - which);
                readToken();
            }
        }

        private int valueTold() {
            if (isWord("coat")) {
                return IS_COAT;
            }
            if (isWord("here")) {
                return IS_HERE;
            }
            if (isWord("took")) {
                return IS_TOOK;
            }
            if (isWord("far")) {
                return IS_FAR;
            }
            if (isWord("worth")) {
                return IS_WORTH;
            }
            if (isWord("crowd")) {
                return IS_CROWD;
            }
            return isWord("minute") ? IS_MINUTE : NONE;
        }
    }

    /** What acts, signs, missing things and refused calls change; an image is another one of it. */
    private static final class State {
        private static final int WIDTH = 6 + 2 * MOST_AISLES;

        private int how = BY_NOBODY;
        private int which = 0;
        private int open = 0;
        private int stops = BY_PROOF;
        private int mirrors = 0;
        private int days = 0;
        private final int[] seen = new int[MOST_AISLES];
        private final int[] stock = new int[MOST_AISLES];
        private int acts = 0;
        private final int[] before = new int[MOST_ACTS * WIDTH];
        private int signs = 0;
        private final int[] signCoat = new int[MOST_SIGNS];
        private final int[] signHad = new int[MOST_SIGNS];
        private int missing = 0;
        private final int[] missAisle = new int[MOST_MISSING];
        private final int[] missMinute = new int[MOST_MISSING];
        private final int[] refused = new int[3];

        /** All anew but for the refused calls, which are counted on. */
        private void begin(Shop shop) {
            how = shop.rules.many > 0 ? BY_RULE : BY_NOBODY;
            which = 0;
            open = 0;
            stops = shop.stops;
            mirrors = shop.floor.mirrors;
            days = 0;
            copyRow(shop.floor.seen, seen);
            copyRow(shop.floor.stock, stock);
            acts = 0;
            signs = 0;
            missing = 0;
        }

        private void copy(State other) {
            how = other.how;
            which = other.which;
            open = other.open;
            stops = other.stops;
            mirrors = other.mirrors;
            days = other.days;
            copyRow(other.seen, seen);
            copyRow(other.stock, stock);
            acts = other.acts;
            copyRow(other.before, before);
            signs = other.signs;
            copyRow(other.signCoat, signCoat);
            copyRow(other.signHad, signHad);
            missing = other.missing;
            copyRow(other.missAisle, missAisle);
            copyRow(other.missMinute, missMinute);
            copyRow(other.refused, refused);
        }

        private void refuse(int what) {
            put(refused, what, at(refused, what) + 1);
        }

        /** Keeps what an act can change as it is ahead of the act; the oldest gives way. */
        private void keepAct() {
            if (acts == MOST_ACTS) {
                System.arraycopy(before, WIDTH, before, 0, (MOST_ACTS - 1) * WIDTH);
                acts--;
            }
            int from = acts * WIDTH;
            put(before, from, how);
            put(before, from + 1, which);
            put(before, from + 2, open);
            put(before, from + 3, stops);
            put(before, from + 4, mirrors);
            put(before, from + 5, days);
            for (int a = 0; a < MOST_AISLES; a++) {
                put(before, from + 6 + a, at(seen, a));
                put(before, from + 6 + MOST_AISLES + a, at(stock, a));
            }
            acts++;
        }

        private void undoLast() {
            acts--;
            int from = acts * WIDTH;
            how = at(before, from);
            which = at(before, from + 1);
            open = at(before, from + 2);
            stops = at(before, from + 3);
            mirrors = at(before, from + 4);
            days = at(before, from + 5);
            for (int a = 0; a < MOST_AISLES; a++) {
                put(seen, a, at(before, from + 6 + a));
                put(stock, a, at(before, from + 6 + MOST_AISLES + a));
            }
        }

        private int toldFrom(int coat) {
            int told = 0;
            for (int i = 0; i < signs; i++) {
                told += at(signCoat, i) >= coat ? 1 : 0;
            }
            return told;
        }

        private int hadFrom(int coat) {
            int had = 0;
            for (int i = 0; i < signs; i++) {
                had += at(signCoat, i) >= coat ? at(signHad, i) : 0;
            }
            return had;
        }
    }

    /** A day in the shop, minute by minute; days that are run one after the other share a stock. */
    private static final class Day {
        private Shop shop;
        private int how = BY_NOBODY;
        private int which = 0;
        private int open = 0;
        private int stops = BY_PROOF;
        private int away = 0;
        private final int[] worth = new int[MOST_AISLES];
        private final int[] seen = new int[MOST_AISLES];
        private final int[] stock = new int[MOST_AISLES];
        private final int[] place = new int[MOST_PEOPLE];
        private final int[] thing = new int[MOST_PEOPLE];
        private final int[] beside = new int[MOST_PEOPLE];
        private int spot = NONE;
        private int sight = 0;
        private final int[] values = new int[VALUES];
        private final int[] result = new int[RESULTS];
        private final int[] spots = new int[MINUTES + 1];
        private final int[] things = new int[(MINUTES + 1) * MOST_PEOPLE];

        private Day(Shop shop) {
            this.shop = shop;
        }

        private void prepare(Shop itsShop, State state) {
            shop = itsShop;
            how = state.how;
            which = state.which;
            open = state.open;
            stops = state.stops;
            away = 0;
            copyRow(shop.floor.worth, worth);
            copyRow(state.seen, seen);
            copyRow(state.stock, stock);
        }

        private int run() {
            fillRow(place, NONE);
            fillRow(thing, NONE);
            fillRow(beside, 0);
            fillRow(result, 0);
            sight = 0;
            boolean watched = how != BY_NOBODY && shop.floor.aisles > 0;
            spot = !watched ? NONE : how == BY_AISLE ? which : 0;
            for (int minute = 1; minute <= MINUTES; minute++) {
                walk(minute);
                follow(minute);
                notice();
                take(minute);
                loseSight();
                note(minute);
            }
            close();
            return at(result, COST);
        }

        private void walk(int minute) {
            for (int p = 0; p < shop.people.many; p++) {
                if (!holds(away, p)) {
                    put(place, p, shop.people.placeIn(p, minute));
                    if (at(thing, p) != NONE && shop.people.leavesIn(p, minute)) {
                        leave(p);
                    }
                }
            }
        }

        private void leave(int p) {
            int from = at(thing, p);
            boolean wasSeen = holds(at(result, SEEN_TAKING), p);
            boolean kept = holds(sight, p);
            put(thing, p, NONE);
            if (at(shop.people.sort, p) == BUYER) {
                tally(PAID, 1);
                if (stops == BY_SIGHT && wasSeen && !kept) {
                    tally(FALSE_ONES, 1);
                    tally(COST, shop.wrong);
                }
            } else if (wasSeen && (stops == BY_SIGHT || stops == BY_PROOF && kept)) {
                tally(CAUGHT, 1);
                mark(WHO_IS_CAUGHT, p);
                putBack(from);
            } else {
                tally(LOST, 1);
                tally(COST, at(worth, from));
            }
        }

        private void tally(int what, int much) {
            put(result, what, at(result, what) + much);
        }

        private void mark(int what, int p) {
            put(result, what, at(result, what) | bit(p));
        }

        private void putBack(int aisle) {
            put(stock, aisle, at(stock, aisle) + 1);
        }

        private void follow(int minute) {
            if (spot == NONE || how == BY_AISLE) {
                return;
            }
            int whom = how == BY_RULE ? chosen(minute) : which;
            if (whom != NONE && at(place, whom) != NONE) {
                spot = shop.floor.nearer(spot, at(place, whom));
            }
        }

        private int chosen(int minute) {
            int whom = NONE;
            int most = 0;
            for (int p = 0; p < shop.people.many; p++) {
                if (at(place, p) != NONE && at(shop.people.sort, p) != STAFF) {
                    tellValues(p, minute);
                    int given = shop.rules.valueOf(which, values);
                    if (given > most) {
                        whom = p;
                        most = given;
                    }
                }
            }
            return whom;
        }

        private void tellValues(int p, int minute) {
            int aisle = at(place, p);
            int crowd = -1;
            for (int other = 0; other < shop.people.many; other++) {
                crowd += at(place, other) == aisle ? 1 : 0;
            }
            put(values, IS_COAT, at(shop.people.coat, p));
            put(values, IS_HERE, minute - at(shop.people.comes, p) + 1);
            put(values, IS_TOOK, holds(at(result, SEEN_TAKING), p) ? 1 : 0);
            put(values, IS_FAR, shop.floor.between(spot, aisle));
            put(values, IS_WORTH, at(worth, aisle));
            put(values, IS_CROWD, crowd);
            put(values, IS_MINUTE, minute);
        }

        private void notice() {
            int enough = open == 1 ? 1 : shop.notice;
            for (int p = 0; p < shop.people.many; p++) {
                boolean near = spot != NONE && at(place, p) == spot;
                boolean thief = at(shop.people.sort, p) == THIEF;
                put(beside, p, near && thief ? at(beside, p) + 1 : 0);
                if (at(beside, p) >= enough) {
                    noticeHim(p);
                }
            }
        }

        private void noticeHim(int p) {
            mark(NOTICED, p);
            if (at(thing, p) != NONE) {
                putBack(at(thing, p));
                put(thing, p, NONE);
            }
        }

        private void take(int minute) {
            for (int p = 0; p < shop.people.many; p++) {
                int aisle = at(place, p);
                boolean wants = aisle != NONE && shop.people.comesToTake(p, minute)
                    && !holds(at(result, NOTICED), p);
                if (wants && at(stock, aisle) > 0) {
                    put(stock, aisle, at(stock, aisle) - 1);
                    put(thing, p, aisle);
                    if (sees(aisle)) {
                        mark(SEEN_TAKING, p);
                        sight |= bit(p);
                    }
                }
            }
        }

        private boolean sees(int aisle) {
            return spot != NONE && (aisle == spot || holds(at(seen, spot), aisle));
        }

        private void loseSight() {
            for (int p = 0; p < shop.people.many; p++) {
                if (!sees(at(place, p))) {
                    sight &= ~bit(p);
                }
            }
        }

        private void note(int minute) {
            put(spots, minute, spot);
            for (int p = 0; p < shop.people.many; p++) {
                put(things, minute * MOST_PEOPLE + p, at(thing, p));
            }
        }

        private void close() {
            for (int p = 0; p < shop.people.many; p++) {
                int from = at(thing, p);
                if (from != NONE && at(shop.people.sort, p) == BUYER) {
                    tally(PAID, 1);
                } else if (from != NONE) {
                    putBack(from);
                }
            }
        }
    }
}
