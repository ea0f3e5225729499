/** Answers that belong together, each row of them asked and held against the due one at once. */
final class Rows {
    private Rows() {
    }

    /** What is counted, told as couples: of which, how many. */
    static void count(String what, ShopEyes x, int... pairs) {
        for (int i = 0; i + 1 < pairs.length; i += 2) {
            Check.due(what + ": count " + pairs[i], pairs[i + 1], x.count(pairs[i]));
        }
    }

    static void day(String what, ShopEyes x, int... due) {
        for (int i = 0; i < due.length; i++) {
            Check.due(what + ": day " + i, due[i], x.day(i));
        }
    }

    /** From the first minute on, as the next two. */
    static void eyes(String what, ShopEyes x, int... due) {
        for (int i = 0; i < due.length; i++) {
            Check.due(what + ": eyes " + (i + 1), due[i], x.eyes(i + 1));
        }
    }

    static void where(String what, ShopEyes x, int p, int... due) {
        for (int i = 0; i < due.length; i++) {
            Check.due(what + ": where " + p + " " + (i + 1), due[i], x.where(p, i + 1));
        }
    }

    static void has(String what, ShopEyes x, int p, int... due) {
        for (int i = 0; i < due.length; i++) {
            Check.due(what + ": has " + p + " " + (i + 1), due[i], x.has(p, i + 1));
        }
    }

    static void best(String what, ShopEyes x, int by, int which, int cost) {
        Check.due(what + ": best " + by + " 0", which, x.best(by, 0));
        Check.due(what + ": best " + by + " 1", cost, x.best(by, 1));
    }

    static void glass(String what, ShopEyes x, int couple, int cost) {
        Check.due(what + ": glass 0", couple, x.glass(0));
        Check.due(what + ": glass 1", cost, x.glass(1));
    }

    static void laid(String what, ShopEyes x, int... due) {
        for (int a = 0; a < due.length; a++) {
            Check.due(what + ": laid " + a, due[a], x.laid(a));
        }
    }

    static void odds(String what, ShopEyes x, int coat, int upper, int lower) {
        Check.due(what + ": odds " + coat + " 0", upper, x.odds(coat, 0));
        Check.due(what + ": odds " + coat + " 1", lower, x.odds(coat, 1));
    }

    static void gate(int have, int all, int beeps, int wrongly, int upper, int lower) {
        ShopEyes x = new ShopEyes();
        String call = "gate " + have + " " + all + " " + beeps + " " + wrongly;
        Check.due(call + " 0", upper, x.gate(have, all, beeps, wrongly, 0));
        Check.due(call + " 1", lower, x.gate(have, all, beeps, wrongly, 1));
    }

    static void game(String what, ShopEyes x, int... due) {
        for (int i = 0; i < 4; i++) {
            Check.due(what + ": game " + i, due[i], x.game(i));
        }
    }

    static void weeks(String what, ShopEyes x, int seed, int n, int... due) {
        for (int i = 0; i < 3; i++) {
            Check.due(what + ": weeks " + seed + " " + n + " " + i, due[i], x.weeks(seed, n, i));
        }
    }
}
