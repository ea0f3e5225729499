import java.util.ArrayList;
import java.util.List;
import java.util.Random;

/** Runs of calls by fixed seeds, each answer against the second one of Model. */
public final class ModelTest {
    private static final int RUNS = 600;
    private static final int CALLS = 60;
    private static final String[] SORTS = {"buyer", "thief", "lapse", "staff"};
    private static final String[] VALUES = {"coat", "here", "took", "far", "worth", "crowd", "minute"};

    private final Random dice;
    private final Model model = new Model();
    private final ShopEyes x = new ShopEyes();
    private final StringBuilder log = new StringBuilder();
    private String text;

    private ModelTest(int seed) {
        dice = new Random(seed);
    }

    public static void main(String[] args) {
        int runs = args.length > 0 ? Integer.parseInt(args[0]) : RUNS;
        int first = args.length > 1 ? Integer.parseInt(args[1]) : 0;
        for (int seed = first; seed < first + runs; seed++) {
            new ModelTest(seed).run();
        }
        Check.end("ModelTest");
    }

    private void run() {
        tell();
        for (int i = 0; i < CALLS; i++) {
            call(dice.nextInt(27));
            if (dice.nextInt(40) == 0) {
                tell();
            }
        }
        for (int what = 0; what < 15; what++) {
            look(what);
        }
    }

    private int some(int n) {
        return dice.nextInt(n);
    }

    /** Now and then a number that is none of those that there are. */
    private int near(int n) {
        return dice.nextInt(12) == 0 ? dice.nextInt(n + 3) - 1 : dice.nextInt(Math.max(1, n));
    }

    private void due(String what, long want, Check.Call call) {
        long got = Check.ask(call);
        log.append(' ').append(what);
        if (want != got) {
            System.out.println(text + "\n " + log);
        }
        Check.due(what, want, got);
    }

    private void tell() {
        Model.Told told;
        do {
            told = new Model.Told();
            text = write(told);
        } while (text.length() > 700);
        log.setLength(0);
        String row = text;
        Check.feed(x, row);
        due("shop", 0, () -> x.shop(row.length()));
        model.begin(told);
    }

    private String write(Model.Told told) {
        StringBuilder row = new StringBuilder();
        int aisles = some(30) == 0 ? 0 : 1 + some(some(3) == 0 ? 10 : 5);
        for (int a = 0; a < aisles; a++) {
            told.worth.add(some(3) == 0 ? some(1000) : some(6) * 10);
            told.stock.add(some(3) == 0 ? some(100) : some(4));
            row.append("aisle ").append(told.worth.get(a)).append(' ').append(told.stock.get(a)).append(';');
        }
        for (int i = some(17); i > 0 && aisles > 1 && told.ways.size() < 16; i--) {
            int a = some(aisles);
            int b = some(2) == 0 ? (a + 1) % aisles : some(aisles);
            if (a != b && !told.ways.contains(List.of(a, b)) && !told.ways.contains(List.of(b, a))) {
                told.ways.add(List.of(a, b));
                row.append("way ").append(a).append(' ').append(b).append(";");
            }
        }
        for (int i = some(7); i > 0 && aisles > 1; i--) {
            int a = some(aisles);
            int b = some(aisles);
            if (a != b && !told.mirrors.contains(List.of(a, b))) {
                told.mirrors.add(List.of(a, b));
                row.append("mirror ").append(a).append(' ').append(b).append(';');
            }
        }
        if (some(2) == 0) {
            told.notice = 1 + some(5);
            row.append("notice ").append(told.notice).append(';');
        }
        if (some(2) == 0) {
            told.wrong = some(1000);
            row.append("false ").append(told.wrong).append(';');
        }
        if (some(2) == 0) {
            told.stops = some(3);
            row.append("stops ").append(told.stops).append(';');
        }
        for (int i = some(9); i > 0 && aisles > 0; i--) {
            writePerson(told, row);
        }
        for (int i = some(5); i > 0; i--) {
            StringBuilder rule = new StringBuilder();
            told.rules.add(or(rule, 0));
            row.append("rule ").append(rule).append(';');
        }
        return row.toString();
    }

    private void writePerson(Model.Told told, StringBuilder row) {
        List<Integer> route = new ArrayList<>(List.of(0));
        for (int i = some(12); i > 0; i--) {
            List<Integer> next = new ArrayList<>(List.of(route.get(route.size() - 1)));
            for (List<Integer> way : told.ways) {
                if (way.contains(next.get(0))) {
                    next.add(way.get(0) + way.get(1) - next.get(0));
                }
            }
            route.add(next.get(some(next.size())));
        }
        if (some(2) == 0) {
            for (int i = route.size() - 2; i >= 0 && route.size() < 12; i--) {
                route.add(route.get(i));
            }
        }
        int in = some(4) == 0 ? 1 + some(60) : 1 + some(12);
        int takes = some(6) == 0 ? 0 : 1 + some(route.size());
        Model.Person p = new Model.Person(some(4), in, takes, some(10), route);
        told.people.add(p);
        row.append(SORTS[p.sort]).append(' ').append(in).append(' ').append(takes).append(' ').append(p.coat);
        for (int a : route) {
            row.append(' ').append(a);
        }
        row.append(';');
    }

    private Model.Expr or(StringBuilder row, int depth) {
        Model.Expr left = and(row, depth);
        while (some(6) == 0) {
            row.append(" or ");
            Model.Expr a = left;
            Model.Expr b = and(row, depth);
            left = v -> truth(a.of(v) != 0 | b.of(v) != 0);
        }
        return left;
    }

    private Model.Expr and(StringBuilder row, int depth) {
        Model.Expr left = not(row, depth);
        while (some(6) == 0) {
            row.append(" and ");
            Model.Expr a = left;
            Model.Expr b = not(row, depth);
            left = v -> truth(a.of(v) != 0 & b.of(v) != 0);
        }
        return left;
    }

    private Model.Expr not(StringBuilder row, int depth) {
        if (some(10) == 0) {
            row.append(" not ");
            Model.Expr a = not(row, depth);
            return v -> truth(a.of(v) == 0);
        }
        Model.Expr a = sum(row, depth);
        if (some(4) != 0) {
            return a;
        }
        boolean less = some(2) == 0;
        row.append(less ? '<' : '=');
        Model.Expr b = sum(row, depth);
        return less ? v -> truth(a.of(v) < b.of(v)) : v -> truth(a.of(v) == b.of(v));
    }

    private static int truth(boolean holds) {
        return holds ? 1 : 0;
    }

    private Model.Expr sum(StringBuilder row, int depth) {
        Model.Expr left = product(row, depth);
        while (some(3) == 0) {
            boolean plus = some(2) == 0;
            row.append(plus ? " +" : "- ");
            Model.Expr a = left;
            Model.Expr b = product(row, depth);
            left = plus ? v -> a.of(v) + b.of(v) : v -> a.of(v) - b.of(v);
        }
        return left;
    }

    private Model.Expr product(StringBuilder row, int depth) {
        Model.Expr left = part(row, depth);
        while (some(3) == 0) {
            boolean times = some(2) == 0;
            row.append(times ? "*" : "/");
            Model.Expr a = left;
            Model.Expr b = part(row, depth);
            left = times ? v -> a.of(v) * b.of(v) : v -> b.of(v) == 0 ? 0 : a.of(v) / b.of(v);
        }
        return left;
    }

    private Model.Expr part(StringBuilder row, int depth) {
        int kind = some(8);
        if (kind == 0 && depth < 5) {
            row.append('(');
            Model.Expr inside = or(row, depth + 1);
            row.append(')');
            return inside;
        }
        if (kind < 4) {
            int number = some(4) == 0 ? some(10000) : some(12);
            row.append(number);
            return v -> number;
        }
        String value = VALUES[some(VALUES.length)];
        row.append(value);
        return v -> v.get(value);
    }

    private void call(int which) {
        if (which < 12) {
            change(which);
        } else {
            look(which - 12);
        }
    }

    private void change(int which) {
        Model.Set set = model.whole.set;
        int aisles = model.told.worth.size();
        switch (which) {
            case 0: case 1: {
                int how = near(4);
                int i = near(how == 1 ? model.told.rules.size() : how == 2 ? model.told.people.size() : aisles);
                int most = how == 1 ? model.told.rules.size() : how == 2 ? model.told.people.size() : aisles;
                boolean can = how == 0 || how >= 1 && how <= 3 && i >= 0 && i < most;
                due("watch " + how + " " + i, can ? 1 : 0, () -> x.watch(how, i) ? 1 : 0);
                if (can) {
                    model.act();
                    set.how = how;
                    set.which = how == 0 ? 0 : i;
                } else {
                    model.whole.refused[1]++;
                }
                break;
            }
            case 2: {
                boolean open = dice.nextBoolean();
                due("open " + open, set.open ? 1 : 0, () -> x.open(open) ? 1 : 0);
                model.act();
                set.open = open;
                break;
            }
            case 3: {
                int stops = near(3);
                boolean can = stops >= 0 && stops < 3;
                due("stops " + stops, can ? set.stops : -1, () -> x.stops(stops));
                if (can) {
                    model.act();
                    set.stops = stops;
                } else {
                    model.whole.refused[1]++;
                }
                break;
            }
            case 4: {
                int a = near(aisles);
                int b = near(aisles);
                boolean can = set.mirrors.size() < 6 && a >= 0 && a < aisles && b >= 0 && b < aisles && a != b
                    && !set.mirrors.contains(List.of(a, b));
                due("mirror " + a + " " + b, can ? set.mirrors.size() + 1 : -1, () -> x.mirror(a, b));
                if (can) {
                    model.act();
                    set.mirrors.add(List.of(a, b));
                } else {
                    model.whole.refused[1]++;
                }
                break;
            }
            case 5: changeStock(set, aisles); break;
            case 6: {
                int many = some(8) == 0 ? some(40) - 5 : 1 + some(3);
                if (many < 1 || many > 30) {
                    due("days " + many, -1, () -> x.days(many));
                    model.whole.refused[1]++;
                } else {
                    due("days " + many, model.days(many), () -> x.days(many));
                }
                break;
            }
            case 7: undo(); break;
            case 8: case 9: tellSign(aisles); break;
            case 10: {
                if (some(3) == 0) {
                    x.forget();
                    model.whole.signs.clear();
                    model.whole.missing.clear();
                    log.append(" forget");
                }
                break;
            }
            default: picture();
        }
    }

    private void changeStock(Model.Set set, int aisles) {
        int a = near(aisles);
        int stock = some(10) == 0 ? some(120) - 10 : some(4);
        if (a < 0 || a >= aisles) {
            due("stock " + a, Check.NO_ELEMENT, () -> x.stock(a, stock));
        } else if (stock < 0 || stock > 99) {
            due("stock " + a + " " + stock, -1, () -> x.stock(a, stock));
            model.whole.refused[1]++;
        } else {
            due("stock " + a + " " + stock, set.stock.get(a), () -> x.stock(a, stock));
            model.act();
            set.stock.set(a, stock);
        }
    }

    private void undo() {
        int times = some(10) == 0 ? 45 : 1 + some(3);
        for (int i = 0; i < times; i++) {
            int left = model.whole.acts.size() - 1;
            due("undo", left, () -> x.undo());
            if (left >= 0) {
                model.whole.set = model.whole.acts.remove(left).copy();
            }
        }
    }

    private void tellSign(int aisles) {
        if (dice.nextBoolean()) {
            int coat = near(10);
            boolean had = dice.nextBoolean();
            boolean can = coat >= 0 && coat < 10 && model.whole.signs.size() < 12;
            due("sign " + coat + had, can ? model.whole.signs.size() + 1 : -1, () -> x.sign(coat, had));
            if (can) {
                model.whole.signs.add(new int[] {coat, had ? 1 : 0});
            } else {
                model.whole.refused[2]++;
            }
            return;
        }
        int a = near(aisles);
        int minute = near(61);
        boolean can = a >= 0 && a < aisles && minute > 0 && minute < 61 && model.whole.missing.size() < 8;
        due("miss " + a + " " + minute, can ? model.whole.missing.size() + 1 : -1, () -> x.miss(a, minute));
        if (can) {
            model.whole.missing.add(new int[] {a, minute});
        } else {
            model.whole.refused[2]++;
        }
    }

    private void picture() {
        if (some(3) == 0) {
            x.image();
            log.append(" image");
            model.image = model.whole.copy();
        } else {
            due("restore", model.image == null ? 0 : 1, () -> x.restore() ? 1 : 0);
            if (model.image != null) {
                model.whole = model.image.copy();
            }
        }
    }

    private void look(int which) {
        Model.Set set = model.whole.set;
        switch (which) {
            case 0: case 1: {
                Model.Went w = model.today();
                int[] due = {w.cost, w.lost, w.caught, w.wrong, w.paid, w.seen, w.noticed, w.caughtBits};
                for (int what = 0; what < 8; what++) {
                    int i = what;
                    due("day " + what, due[what], () -> x.day(i));
                }
                break;
            }
            case 2: minutes(); break;
            case 3: {
                for (int by = 0; by < 3; by++) {
                    int[] found = model.best(by);
                    int i = by;
                    due("best " + by + " 0", found[0], () -> x.best(i, 0));
                    due("best " + by + " 1", found[1], () -> x.best(i, 1));
                }
                break;
            }
            case 4: {
                boolean open = dice.nextBoolean();
                Model.Set s = set.copy();
                s.open = open;
                due("cost " + open, model.costOf(s), () -> x.cost(open));
                break;
            }
            case 5: {
                int[] found = model.glass();
                due("glass 0", found[0], () -> x.glass(0));
                due("glass 1", found[1], () -> x.glass(1));
                break;
            }
            case 6: {
                due("lay", model.lay(), () -> x.lay());
                rows();
                break;
            }
            case 7: rows(); break;
            case 8: {
                for (int p = 0; p < model.told.people.size(); p++) {
                    int i = p;
                    due("without " + p, model.day(set, model.told.worth, java.util.Set.of(p)).cost, () -> x.without(i));
                }
                break;
            }
            case 9: {
                int coat = near(10);
                boolean can = coat >= 0 && coat < 10;
                for (int what = 0; what < 2; what++) {
                    int i = what;
                    due("odds " + coat + " " + what, can ? model.odds(coat)[what] : Check.ILLEGAL, () -> x.odds(coat, i));
                }
                due("line", model.line(), () -> x.line());
                break;
            }
            case 10: {
                for (int i = -1; i < model.whole.missing.size(); i++) {
                    int which2 = i;
                    int want = i < 0 ? model.fewest() : model.canHave(model.whole.missing.get(i));
                    due("who " + i, want, () -> x.who(which2));
                }
                break;
            }
            case 11: {
                int[] found = model.game();
                for (int what = 0; what < 4; what++) {
                    int i = what;
                    due("game " + what, found[what], () -> x.game(i));
                }
                break;
            }
            case 12: {
                int seed = dice.nextInt();
                int n = some(5) == 0 ? some(31) : some(4);
                int[] sums = model.weeks(seed, n);
                for (int what = 0; what < 3; what++) {
                    int i = what;
                    due("weeks " + seed + " " + n + " " + what, sums[what], () -> x.weeks(seed, n, i));
                }
                break;
            }
            default: counts();
        }
    }

    private void minutes() {
        Model.Went w = model.today();
        for (int i = 0; i < 12; i++) {
            int minute = some(4) == 0 ? 1 + some(60) : 1 + some(25);
            due("eyes " + minute, w.eyes.get(minute), () -> x.eyes(minute));
            for (int p = 0; p < model.told.people.size(); p++) {
                int one = p;
                due("where " + p + " " + minute, w.places.get(minute).getOrDefault(p, -1), () -> x.where(one, minute));
                due("has " + p + " " + minute, w.things.get(minute).getOrDefault(p, -1), () -> x.has(one, minute));
            }
        }
    }

    private void rows() {
        for (int a = 0; a < model.told.worth.size(); a++) {
            int i = a;
            due("laid " + a, model.laid == null ? Check.NO_ELEMENT : model.laid.get(a), () -> x.laid(i));
        }
    }

    private void counts() {
        Model.Told told = model.told;
        Model.Whole w = model.whole;
        int[] due = {told.worth.size(), told.ways.size(), w.set.mirrors.size(), told.people.size(), told.rules.size(),
            told.notice, told.wrong, w.set.stops, w.set.how, w.set.which, w.set.open ? 1 : 0, w.set.days,
            w.acts.size(), w.signs.size(), w.missing.size(), 0, w.refused[0], w.refused[1], w.refused[2]};
        for (int what = 0; what < due.length; what++) {
            int i = what;
            due("count " + what, due[what], () -> x.count(i));
        }
        for (int a = 0; a < told.worth.size(); a++) {
            int i = a;
            int joined = 0;
            int seen = 0;
            for (int b = 0; b < told.worth.size(); b++) {
                joined |= model.joined(a, b) ? 1 << b : 0;
                seen |= w.set.mirrors.contains(List.of(a, b)) ? 1 << b : 0;
                int other = b;
                due("far " + a + " " + b, model.far(a, b), () -> x.far(i, other));
            }
            int[] aisle = {told.worth.get(a), w.set.stock.get(a), joined, seen};
            for (int what = 0; what < 4; what++) {
                int k = what;
                due("aisle " + a + " " + what, aisle[what], () -> x.aisle(i, k));
            }
        }
    }
}
