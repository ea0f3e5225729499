import java.util.ArrayList;
import java.util.List;
import java.util.Map;
import java.util.TreeMap;
import java.util.TreeSet;

/** A second, slow answer to the promises, built of maps and copies, for shops that are told right. */
final class Model {
    interface Expr {
        int of(Map<String, Integer> values);
    }

    static final class Person {
        final int sort;
        final int in;
        final int takes;
        final int coat;
        final List<Integer> route;

        Person(int sort, int in, int takes, int coat, List<Integer> route) {
            this.sort = sort;
            this.in = in;
            this.takes = takes;
            this.coat = coat;
            this.route = route;
        }
    }

    /** What a text tells. */
    static final class Told {
        final List<Integer> worth = new ArrayList<>();
        final List<Integer> stock = new ArrayList<>();
        final List<List<Integer>> ways = new ArrayList<>();
        final List<List<Integer>> mirrors = new ArrayList<>();
        final List<Person> people = new ArrayList<>();
        final List<Expr> rules = new ArrayList<>();
        int notice = 3;
        int wrong = 400;
        int stops = 1;
    }

    /** What acts change. */
    static final class Set {
        int how;
        int which;
        boolean open;
        int stops;
        int days;
        List<List<Integer>> mirrors = new ArrayList<>();
        List<Integer> stock = new ArrayList<>();

        Set copy() {
            Set s = new Set();
            s.how = how;
            s.which = which;
            s.open = open;
            s.stops = stops;
            s.days = days;
            s.mirrors = new ArrayList<>(mirrors);
            s.stock = new ArrayList<>(stock);
            return s;
        }
    }

    /** All that an image keeps. */
    static final class Whole {
        Set set = new Set();
        List<Set> acts = new ArrayList<>();
        List<int[]> signs = new ArrayList<>();
        List<int[]> missing = new ArrayList<>();
        int[] refused = new int[3];

        Whole copy() {
            Whole w = new Whole();
            w.set = set.copy();
            w.acts = new ArrayList<>(acts);
            w.signs = new ArrayList<>(signs);
            w.missing = new ArrayList<>(missing);
            w.refused = refused.clone();
            return w;
        }
    }

    /** How a day went. */
    static final class Went {
        int cost;
        int lost;
        int caught;
        int wrong;
        int paid;
        int seen;
        int noticed;
        int caughtBits;
        List<Integer> stockLeft;
        final List<Integer> eyes = new ArrayList<>();
        final List<Map<Integer, Integer>> places = new ArrayList<>();
        final List<Map<Integer, Integer>> things = new ArrayList<>();
    }

    Told told = new Told();
    Whole whole = new Whole();
    Whole image;
    List<Integer> laid;

    Model() {
        whole.set.stops = 1;
    }

    void begin(Told anew) {
        told = anew;
        int[] refused = whole.refused;
        whole = new Whole();
        whole.refused = refused;
        whole.set.how = told.rules.isEmpty() ? 0 : 1;
        whole.set.stops = told.stops;
        whole.set.mirrors = new ArrayList<>(told.mirrors);
        whole.set.stock = new ArrayList<>(told.stock);
        image = null;
        laid = null;
    }

    boolean joined(int a, int b) {
        return told.ways.contains(List.of(a, b)) || told.ways.contains(List.of(b, a));
    }

    /** By steps outwards from one aisle. */
    int far(int a, int b) {
        TreeSet<Integer> reached = new TreeSet<>(List.of(a));
        for (int d = 0; d < 10; d++) {
            if (reached.contains(b)) {
                return d;
            }
            TreeSet<Integer> wider = new TreeSet<>(reached);
            for (int from : reached) {
                for (int to = 0; to < told.worth.size(); to++) {
                    if (joined(from, to)) {
                        wider.add(to);
                    }
                }
            }
            reached = wider;
        }
        return -1;
    }

    Went day(Set set, List<Integer> worth, java.util.Set<Integer> away) {
        Went w = new Went();
        List<Integer> shelf = new ArrayList<>(set.stock);
        Map<Integer, Integer> at = new TreeMap<>();
        Map<Integer, Integer> index = new TreeMap<>();
        Map<Integer, Integer> thing = new TreeMap<>();
        Map<Integer, Integer> beside = new TreeMap<>();
        TreeSet<Integer> took = new TreeSet<>();
        TreeSet<Integer> sight = new TreeSet<>();
        TreeSet<Integer> noticed = new TreeSet<>();
        boolean there = set.how != 0 && !worth.isEmpty();
        int eye = !there ? -1 : set.how == 3 ? set.which : 0;
        w.eyes.add(eye);
        w.places.add(new TreeMap<>());
        w.things.add(new TreeMap<>());
        for (int minute = 1; minute <= 60; minute++) {
            TreeSet<Integer> moved = new TreeSet<>();
            for (int p = 0; p < told.people.size(); p++) {
                Person who = told.people.get(p);
                if (away.contains(p)) {
                    continue;
                }
                if (who.in == minute) {
                    index.put(p, 0);
                    moved.add(p);
                } else if (index.containsKey(p)) {
                    int next = index.get(p) + 1;
                    if (next < who.route.size()) {
                        index.put(p, next);
                        moved.add(p);
                    } else if (who.route.get(next - 1) == 0) {
                        index.remove(p);
                        at.remove(p);
                        if (thing.containsKey(p)) {
                            out(set, worth, w, shelf, p, thing.remove(p), took.contains(p), sight.contains(p));
                        }
                    }
                }
                if (index.containsKey(p)) {
                    at.put(p, who.route.get(index.get(p)));
                }
            }
            if (there) {
                eye = goes(set, worth, at, took, eye, minute);
            }
            for (int p = 0; p < told.people.size(); p++) {
                if (told.people.get(p).sort != 1) {
                    continue;
                }
                boolean near = there && at.containsKey(p) && at.get(p) == eye;
                beside.merge(p, near ? 1 : 0, (old, one) -> near ? old + 1 : 0);
                if (beside.get(p) >= (set.open ? 1 : told.notice)) {
                    noticed.add(p);
                    if (thing.containsKey(p)) {
                        int from = thing.remove(p);
                        shelf.set(from, shelf.get(from) + 1);
                    }
                }
            }
            for (int p : moved) {
                boolean comes = index.get(p) + 1 == told.people.get(p).takes;
                int here = at.get(p);
                if (comes && shelf.get(here) > 0 && !noticed.contains(p)) {
                    shelf.set(here, shelf.get(here) - 1);
                    thing.put(p, here);
                    if (sees(set, eye, here)) {
                        took.add(p);
                        sight.add(p);
                    }
                }
            }
            int spot = eye;
            sight.removeIf(p -> !at.containsKey(p) || !sees(set, spot, at.get(p)));
            w.eyes.add(eye);
            w.places.add(new TreeMap<>(at));
            w.things.add(new TreeMap<>(thing));
        }
        for (Map.Entry<Integer, Integer> left : thing.entrySet()) {
            if (told.people.get(left.getKey()).sort == 0) {
                w.paid++;
            } else {
                shelf.set(left.getValue(), shelf.get(left.getValue()) + 1);
            }
        }
        w.seen = bits(took);
        w.noticed = bits(noticed);
        w.stockLeft = shelf;
        return w;
    }

    private void out(Set set, List<Integer> worth, Went w, List<Integer> shelf, int p, int from,
            boolean took, boolean kept) {
        if (told.people.get(p).sort == 0) {
            w.paid++;
            if (set.stops == 2 && took && !kept) {
                w.wrong++;
                w.cost += told.wrong;
            }
            return;
        }
        boolean proved = set.stops != 0 && took && kept;
        boolean onSight = set.stops == 2 && took;
        if (proved || onSight) {
            w.caught++;
            w.caughtBits |= 1 << p;
            shelf.set(from, shelf.get(from) + 1);
        } else {
            w.lost++;
            w.cost += worth.get(from);
        }
    }

    private int goes(Set set, List<Integer> worth, Map<Integer, Integer> at, TreeSet<Integer> took, int eye,
            int minute) {
        int goal = -1;
        if (set.how == 2) {
            goal = at.getOrDefault(set.which, -1);
        } else if (set.how == 1) {
            int most = 0;
            for (int p : at.keySet()) {
                Person who = told.people.get(p);
                int here = at.get(p);
                Map<String, Integer> v = new TreeMap<>();
                v.put("coat", who.coat);
                v.put("here", minute - who.in + 1);
                v.put("took", took.contains(p) ? 1 : 0);
                v.put("far", far(eye, here) < 0 ? 99 : far(eye, here));
                v.put("worth", worth.get(here));
                v.put("crowd", (int) at.values().stream().filter(a -> a == here).count() - 1);
                v.put("minute", minute);
                int gives = told.rules.get(set.which).of(v);
                if (who.sort != 3 && gives > most) {
                    most = gives;
                    goal = here;
                }
            }
        }
        if (goal < 0 || goal == eye || far(eye, goal) < 0) {
            return eye;
        }
        for (int a = 0; a < worth.size(); a++) {
            if (joined(eye, a) && far(a, goal) == far(eye, goal) - 1) {
                return a;
            }
        }
        return eye;
    }

    private static boolean sees(Set set, int eye, int aisle) {
        return eye >= 0 && (eye == aisle || set.mirrors.contains(List.of(eye, aisle)));
    }

    private static int bits(TreeSet<Integer> some) {
        return some.stream().mapToInt(p -> 1 << p).sum();
    }

    Went today() {
        return day(whole.set, told.worth, java.util.Set.of());
    }

    int costOf(Set set) {
        return day(set, told.worth, java.util.Set.of()).cost;
    }

    void act() {
        whole.acts.add(whole.set.copy());
        if (whole.acts.size() > 40) {
            whole.acts.remove(0);
        }
    }

    int days(int many) {
        act();
        int sum = 0;
        for (int i = 0; i < many; i++) {
            Went w = today();
            sum += w.cost;
            whole.set.stock = w.stockLeft;
        }
        whole.set.days += many;
        return sum;
    }

    int[] best(int by) {
        int how = by == 0 ? 3 : by == 1 ? 2 : 1;
        int many = by == 0 ? told.worth.size() : by == 1 ? told.people.size() : told.rules.size();
        int[] found = {-1, -1};
        int least = Integer.MAX_VALUE;
        for (int i = 0; i < many + (by == 2 ? 1 : 0); i++) {
            Set s = whole.set.copy();
            s.how = i < many ? how : 0;
            s.which = i < many ? i : 0;
            int cost = costOf(s);
            if (cost < least) {
                least = cost;
                found = new int[] {i < many ? i : -1, cost};
            }
        }
        return found;
    }

    int[] glass() {
        int[] found = {-1, -1};
        int least = costOf(whole.set);
        for (int a = 0; a < told.worth.size() && whole.set.mirrors.size() < 6; a++) {
            for (int b = 0; b < told.worth.size(); b++) {
                if (a != b && !whole.set.mirrors.contains(List.of(a, b))) {
                    Set s = whole.set.copy();
                    s.mirrors.add(List.of(a, b));
                    if (costOf(s) < least) {
                        least = costOf(s);
                        found = new int[] {10 * a + b, least};
                    }
                }
            }
        }
        return found;
    }

    int lay() {
        int n = told.worth.size();
        if (n > 5) {
            return -2;
        }
        int least = Integer.MAX_VALUE;
        for (List<Integer> row : orders(n)) {
            List<Integer> worth = new ArrayList<>();
            for (int from : row) {
                worth.add(told.worth.get(from));
            }
            int cost = day(whole.set, worth, java.util.Set.of()).cost;
            if (cost < least) {
                least = cost;
                laid = row;
            }
        }
        return least;
    }

    /** All rows of 0 to n - 1 without one twice, least first. */
    private static List<List<Integer>> orders(int n) {
        List<List<Integer>> rows = new ArrayList<>(List.of(List.of()));
        for (int length = 0; length < n; length++) {
            List<List<Integer>> longer = new ArrayList<>();
            for (List<Integer> row : rows) {
                for (int a = 0; a < n; a++) {
                    if (!row.contains(a)) {
                        List<Integer> next = new ArrayList<>(row);
                        next.add(a);
                        longer.add(next);
                    }
                }
            }
            rows = longer;
        }
        return rows;
    }

    int[] weeks(int seed, int n) {
        int[] sums = new int[3];
        Set s = whole.set.copy();
        int now = seed;
        for (int i = 0; i < n; i++) {
            TreeSet<Integer> away = new TreeSet<>();
            for (int p = 0; p < told.people.size(); p++) {
                now = now * 1103515245 + 12345;
                if (((now & 0x7fffffff) >> 16) % 2 == 0) {
                    away.add(p);
                }
            }
            Went w = day(s, told.worth, away);
            s.stock = w.stockLeft;
            sums[0] += w.cost;
            sums[1] = Math.max(sums[1], w.cost);
            sums[2] += w.lost;
        }
        return sums;
    }

    int canHave(int[] missing) {
        Went w = today();
        int found = 0;
        for (int minute = 1; minute <= missing[1]; minute++) {
            for (Map.Entry<Integer, Integer> one : w.places.get(minute).entrySet()) {
                found |= one.getValue() == missing[0] ? 1 << one.getKey() : 0;
            }
        }
        return found;
    }

    int fewest() {
        int found = -1;
        for (int some = (1 << told.people.size()) - 1; some >= 0; some--) {
            boolean all = true;
            for (int[] missing : whole.missing) {
                all &= (canHave(missing) & some) != 0;
            }
            if (all && (found < 0 || Integer.bitCount(some) <= Integer.bitCount(found))) {
                found = some;
            }
        }
        return found;
    }

    int[] odds(int coat) {
        int had = 0;
        int all = 0;
        for (int[] sign : whole.signs) {
            if (sign[0] >= coat) {
                all++;
                had += sign[1];
            }
        }
        return lowest(had, all);
    }

    static int[] lowest(int upper, int lower) {
        if (lower == 0) {
            return new int[] {0, 1};
        }
        int by = 1;
        for (int d = 1; d <= lower; d++) {
            by = upper % d == 0 && lower % d == 0 ? d : by;
        }
        return new int[] {upper / by, lower / by};
    }

    int line() {
        for (int coat = 0; coat < 10; coat++) {
            int more = 0;
            for (int[] sign : whole.signs) {
                more += sign[0] < coat ? 0 : sign[1] == 1 ? 1 : -1;
            }
            if (more > 0) {
                return coat;
            }
        }
        return -1;
    }

    int[] game() {
        int n = told.worth.size();
        int[][] thief = new int[n][n];
        for (int t = 0; t < n; t++) {
            for (int d = 0; d < n; d++) {
                thief[t][d] = sees(whole.set, d, t) ? 0 - told.wrong / 10 : told.worth.get(t);
            }
        }
        int[] found = {0, -1, -1, -1};
        for (int t = n - 1; t >= 0; t--) {
            for (int d = n - 1; d >= 0; d--) {
                boolean rests = true;
                for (int other = 0; other < n; other++) {
                    rests &= thief[other][d] <= thief[t][d] && 0 - thief[t][other] <= 0 - thief[t][d];
                }
                if (rests) {
                    found[0]++;
                    found[1] = 10 * t + d;
                }
            }
        }
        for (int d = 0; d < n; d++) {
            int most = thief[0][d];
            for (int t = 0; t < n; t++) {
                most = Math.max(most, thief[t][d]);
            }
            if (d == 0 || most < found[3]) {
                found[2] = d;
                found[3] = most;
            }
        }
        return found;
    }
}
