/** The edges of what is asked for one DAY (part 3, promises 21 to 26): like ones, none, full, spent. */
public final class AskEdgesTest {
    private static final String ROW = "aisle 0 9;aisle 50 9;aisle 20 9;way 0 1;way 1 2;";
    private static final int[] FAR_OFF = {-1, 10, 100, 1 << 16, 1 << 30, Integer.MAX_VALUE, Integer.MIN_VALUE};

    public static void main(String[] args) {
        standAtTheLast();
        followTheLast();
        ruleOfMany();
        theFirstOfLikeOnes();
        nobodyBehindAllRules();
        noneToChooseFrom();
        bothWays();
        lessThanNow();
        firstOfLikeCouples();
        allCouples();
        alsoWithSix();
        anyOrder();
        firstOfLikeRows();
        stockStays();
        spent();
        rowIsKept();
        without();
        whatIsStays();
        wrongInputs();
        Check.end("AskEdgesTest");
    }

    private static void lay(String what, ShopEyes x, int cost, int... row) {
        Check.due(what + ": lay", cost, x.lay());
        Rows.laid(what, x, row);
    }

    /** One thing is taken in AISLE a, and whoever sees it stops him: he stands there best. */
    private static void standAtTheLast() {
        Check.sentence("WHERE TO STAND: the AISLE by which COST is least");
        StringBuilder ten = new StringBuilder("aisle 7 1;".repeat(10)).append("stops 2;");
        for (int a = 1; a < 10; a++) {
            ten.append("way 0 ").append(a).append(';');
        }
        for (int a = 1; a < 10; a++) {
            ShopEyes x = Check.shop(ten + "lapse 1 2 0 0 " + a + " 0;");
            Rows.best("taken in " + a, x, 0, a, 0);
            Check.due("nobody watches", 7, x.day(0));
        }
        Rows.best("in one AISLE", Check.shop("aisle 7 9;lapse 1 1 0 0;"), 0, 0, 0);
        Rows.best("whatever is", Check.shop(ROW + "stops 0;lapse 1 2 0 0 1 0;rule 1;"), 0, 0, 50);
    }

    private static void followTheLast() {
        Check.sentence("WHOM TO FOLLOW: the one of PEOPLE");
        for (int p = 0; p < 8; p++) {
            String text = "aisle 0 0;aisle 6 9;way 0 1;" + "buyer 1 0 0 0 0 0;".repeat(p) + "lapse 1 2 0 0 1 0;"
                + "buyer 1 0 0 0 0 0;".repeat(7 - p);
            Rows.best("one of eight, " + p, Check.shop(text), 1, p, 0);
        }
        Rows.best("staff too", Check.shop(ROW + "stops 2;lapse 9 3 0 0 1 2 1 0;staff 1 0 0 0 1 2;"), 1, 0, 0);
        Rows.best("she leads him there", Check.shop(ROW + "stops 2;lapse 9 2 0 0 1 0;lapse 11 3 0 0 1 2 1 0;staff 1 0 0 0 1 2;mirror 2 1;"), 1, 2, 0);
    }

    private static void ruleOfMany() {
        Check.sentence("WHICH RULE: of all RULES, or nobody watching");
        for (int rule = 0; rule < 4; rule++) {
            String text = ROW + "lapse 1 2 0 0 1 0;" + "rule 0;".repeat(rule) + "rule 1;" + "rule 0;".repeat(3 - rule);
            Rows.best("one of four, " + rule, Check.shop(text), 2, rule, 0);
        }
        String wrongly = ROW + "stops 2;false 1;buyer 1 2 0 0 1 1 0;";
        Rows.best("nobody", Check.shop(wrongly + "rule minute<3;"), 2, -1, 0);
        Rows.best("nobody, of four", Check.shop(wrongly + "rule minute<3;".repeat(4)), 2, -1, 0);
        Rows.best("a rule", Check.shop(wrongly + "rule minute<3;rule 1;"), 2, 1, 0);
        ShopEyes watched = Check.shop(wrongly + "rule minute<3;");
        watched.watch(3, 1);
        Rows.best("whatever the WATCH is", watched, 2, -1, 0);
    }

    private static void theFirstOfLikeOnes() {
        Check.sentence("(of like ones the first; nobody behind all RULES)");
        String two = "rule 1;rule 2;rule 0;rule 3;";
        ShopEyes all = Check.shop(ROW + "lapse 1 0 0 0 1 0;lapse 1 0 0 0 1 0;" + two);
        ShopEyes none = Check.shop(ROW + "stops 0;lapse 1 2 0 0 1 0;lapse 1 2 0 0 1 0;" + two);
        for (int by = 0; by < 3; by++) {
            Rows.best("nothing is lost", all, by, 0, 0);
            Rows.best("all is lost", none, by, 0, 100);
        }
        String twice = "aisle 0 0;aisle 6 9;aisle 6 9;way 0 1;way 0 2;stops 2;";
        Rows.best("one of two", Check.shop(twice + "lapse 1 2 0 0 1 0;lapse 1 2 0 0 2 0;"), 0, 1, 6);
        Rows.best("one of two", Check.shop(twice + "buyer 1 0 0 0;lapse 1 2 0 0 1 0;lapse 1 2 0 0 2 0;"), 1, 1, 6);
    }

    private static void nobodyBehindAllRules() {
        Check.sentence("nobody behind all RULES");
        Rows.best("like with a rule", Check.shop(ROW + "lapse 1 2 0 0 1 0;rule 0;rule 0;"), 2, 0, 50);
        Rows.best("like with none of them", Check.shop(ROW + "rule 0;"), 2, 0, 0);
        Rows.best("like with the second", Check.shop(ROW + "stops 2;false 9;buyer 1 2 0 0 1 1 0;rule minute<3;rule 1;"), 2, 1, 0);
    }

    private static void noneToChooseFrom() {
        Check.sentence("NONE: there is none; of RULES: nobody");
        ShopEyes none = new ShopEyes();
        Rows.best("no AISLES", none, 0, -1, -1);
        Rows.best("no PEOPLE", none, 1, -1, -1);
        Rows.best("no RULES", none, 2, -1, 0);
        ShopEyes x = Check.shop(ROW + "lapse 1 2 0 0 1 0;");
        x.watch(2, 0);
        Rows.best("no RULES", x, 2, -1, 50);
        Rows.best("no PEOPLE", Check.shop(ROW + "rule 1;"), 1, -1, -1);
        Rows.best("no PEOPLE, but AISLES", Check.shop(ROW + "rule 1;"), 0, 0, 0);
        Rows.best("a RULE without AISLES", Check.shop("rule 1;"), 2, 0, 0);
    }

    private static void bothWays() {
        Check.sentence("OPEN or HIDDEN: COST of both");
        for (int open = 0; open < 2; open++) {
            ShopEyes x = Check.shop(ROW + "notice 2;thief 1 2 0 0 1 0;lapse 1 3 0 0 1 2 1 0;");
            x.watch(3, 1);
            x.open(open == 1);
            Check.due("hidden", 70, x.cost(false));
            Check.due("open", 20, x.cost(true));
            Check.due("as it is", open == 1 ? 20 : 70, x.day(0));
            x.watch(0, 0);
            Check.due("nobody watches", 70, x.cost(true));
        }
        Check.due("no shop", 0, new ShopEyes().cost(false));
    }

    private static void lessThanNow() {
        Check.sentence("if it is less than now");
        ShopEyes x = Check.shop(ROW + "lapse 1 2 0 0 1 0;");
        Rows.glass("nobody watches", x, -1, -1);
        x.watch(3, 1);
        Rows.glass("from 1 to the door", x, 10, 0);
        x.stops(0);
        Rows.glass("no STOPS", x, -1, -1);
        x.stops(2);
        Rows.glass("nothing to lose", x, -1, -1);
        x.stops(1);
        x.mirror(1, 0);
        Rows.glass("there is one", x, -1, -1);
        Rows.glass("no shop", new ShopEyes(), -1, -1);
        ShopEyes one = Check.shop("aisle 9 9;lapse 1 1 0 0;stops 0;rule 1;");
        Rows.glass("one AISLE", one, -1, -1);
        ShopEyes worse = Check.shop(ROW + "stops 2;buyer 1 2 0 0 1 1 0;");
        worse.watch(3, 2);
        Rows.glass("a MIRROR could make it worse alone", worse, -1, -1);
        ShopEyes little = Check.shop("aisle 0 9;aisle 1 9;way 0 1;lapse 1 2 0 0 1 0;lapse 1 2 0 0 1 0;");
        little.watch(3, 1);
        Rows.glass("from 2 to 0", little, 10, 0);
    }

    private static void firstOfLikeCouples() {
        Check.sentence("of like ones the first");
        String three = "aisle 6 9;aisle 6 9;aisle 6 9;way 0 1;way 0 2;stops 2;lapse 1 2 0 0 1 0;lapse 1 2 0 0 2 0;";
        ShopEyes x = Check.shop(three);
        x.watch(3, 0);
        Rows.glass("one of two", x, 1, 6);
        x.mirror(0, 1);
        Rows.glass("the other one", x, 2, 0);
        ShopEyes best = Check.shop(three.replace("aisle 6 9;way", "aisle 7 9;way"));
        best.watch(3, 0);
        Rows.glass("the better one behind it", best, 2, 6);
        // WORTHS so small that 1 is the COST by one couple, and a later couple may do better still.
        ShopEyes one = Check.shop("aisle 0 9;aisle 1 9;aisle 2 9;way 0 1;way 0 2;stops 2;lapse 1 2 0 0 1 0;lapse 1 2 0 0 2 0;");
        one.watch(3, 0);
        Rows.glass("1 is left", one, 2, 1);
        ShopEyes steps = Check.shop("aisle 0 9;aisle 1 9;aisle 1 9;way 0 1;way 0 2;stops 2;"
            + "lapse 1 2 0 0 1 0;lapse 1 2 0 0 2 0;lapse 1 2 0 0 2 0;");
        steps.watch(3, 0);
        Rows.glass("2 with the first, 1 with the second", steps, 2, 1);
        ShopEyes zero = Check.shop("aisle 0 9;aisle 0 9;aisle 1 9;way 1 0;way 2 0;stops 2;false 1;"
            + "lapse 1 2 0 0 2 0;buyer 1 2 0 0 1 0;");
        zero.watch(3, 1);
        Rows.glass("1 by the door, 1 by the shelf", zero, 10, 1);
        ShopEyes better = Check.shop("aisle 0 9;aisle 2 9;aisle 1 9;aisle 3 9;way 0 1;way 0 2;stops 2;lapse 1 2 0 0 1 0;lapse 1 2 0 0 2 0;");
        better.watch(3, 3);
        better.mirror(3, 2);
        Rows.glass("2 is left, then none", better, 31, 0);
    }

    private static void allCouples() {
        Check.sentence("of all couples (in one AISLE, to see another one) without one");
        for (int in = 0; in < 10; in++) {
            for (int other = 1; other < 10; other++) {
                if (in != other) {
                    ShopEyes x = Check.shop("aisle 1 9;".repeat(10) + "way 0 " + other + ";stops 2;lapse 1 2 0 0 " + other + " 0;");
                    x.watch(3, in);
                    Rows.glass("in " + in, x, 10 * in + other, 0);
                    x.mirror(in, other);
                    Rows.glass("it is there", x, -1, -1);
                }
            }
        }
        ShopEyes door = Check.shop("aisle 1 9;".repeat(10) + "stops 2;lapse 1 1 0 0;");
        door.watch(3, 9);
        Rows.glass("in 9 to the door", door, 90, 0);
    }

    private static void alsoWithSix() {
        Check.sentence("none (also with 6)");
        ShopEyes x = Check.shop("aisle 6 9;".repeat(4) + "way 0 1;stops 2;lapse 1 2 0 0 1 0;mirror 3 0;mirror 3 1;mirror 3 2;mirror 2 0;");
        x.watch(3, 0);
        Rows.glass("four", x, 1, 0);
        x.mirror(2, 1);
        Rows.glass("five", x, 1, 0);
        x.mirror(2, 3);
        Rows.glass("six", x, -1, -1);
        x.undo();
        Rows.glass("five again", x, 1, 0);
    }

    /** The DETECTIVE comes to AISLE 4 in time, if WORTHS stand in the told order alone: WORTH is 10 and where it comes from. */
    private static void anyOrder() {
        Check.sentence("WHAT TO LAY WHERE: orders of all WORTHS by AISLES");
        int[] row = {0, 1, 2, 3, 4};
        for (int order = 0; order < 120; order++) {
            StringBuilder rule = new StringBuilder();
            for (int step = 1; step < 5; step++) {
                rule.append(step > 1 ? " or " : "").append("here=").append(step + 1).append(" and worth=").append(10 + row[step]);
            }
            ShopEyes x = Check.shop("aisle 10 9;aisle 11 9;aisle 12 9;aisle 13 9;aisle 14 9;way 0 1;way 1 2;way 2 3;way 3 4;"
                + "stops 2;lapse 1 5 0 0 1 2 3 4 3 2 1 0;rule " + rule + ";");
            lay("order " + order, x, 0, row);
            next(row);
        }
        lay("no AISLES", new ShopEyes(), 0);
        lay("one AISLE", Check.shop("aisle 7 9;lapse 1 1 0 0;"), 7, 0);
        lay("two AISLES", Check.shop("aisle 7 9;aisle 5 9;lapse 1 1 0 0;"), 5, 1, 0);
    }

    /** Makes a row of five the next one, the least first. */
    private static void next(int[] row) {
        int number = 0;
        for (int one : row) {
            number = number * 10 + one;
        }
        boolean found = false;
        while (!found && number < 43210) {
            number++;
            int seen = 0;
            for (int left = number, i = 0; i < 5; i++, left /= 10) {
                seen |= 1 << left % 10;
            }
            found = seen == 31;
        }
        for (int i = 4; i >= 0; i--, number /= 10) {
            row[i] = number % 10;
        }
    }

    private static void firstOfLikeRows() {
        Check.sentence("of like ones the first as a row of what AISLE each comes from");
        lay("nothing is lost", Check.shop("aisle 3 9;aisle 2 9;aisle 1 9;"), 0, 0, 1, 2);
        lay("all are like", Check.shop("aisle 3 9;aisle 3 9;aisle 3 9;lapse 1 1 0 0;"), 3, 0, 1, 2);
        lay("like ones", Check.shop("aisle 9 9;aisle 3 9;aisle 3 9;aisle 4 9;lapse 1 1 0 0;"), 3, 1, 0, 2, 3);
        lay("1 is left", Check.shop("aisle 9 9;aisle 1 9;aisle 3 9;aisle 4 9;lapse 1 1 0 0;"), 1, 1, 0, 2, 3);
        lay("1, then 0", Check.shop("aisle 1 9;aisle 2 9;aisle 0 9;lapse 1 1 0 0;"), 0, 2, 0, 1);
    }

    private static void stockStays() {
        Check.sentence("(STOCK stays)");
        String two = "way 0 1;lapse 1 1 0 0;lapse 1 1 0 0;lapse 1 2 0 0 1 0;lapse 1 2 0 0 1 0;lapse 1 2 0 0 1 0;";
        lay("three of one", Check.shop("aisle 5 9;aisle 8 9;" + two), 31, 1, 0);
        lay("one is there", Check.shop("aisle 8 9;aisle 5 1;" + two), 18, 1, 0);
        lay("none is there", Check.shop("aisle 5 0;aisle 8 9;" + two), 15, 1, 0);
    }

    private static void spent() {
        Check.sentence("SPENT: more than 5 AISLES; -2: SPENT (what is kept stays)");
        for (int aisles = 6; aisles <= 10; aisles++) {
            ShopEyes x = Check.shop("aisle 1 9;".repeat(aisles) + "lapse 1 1 0 0;");
            Check.due("spent", -2, x.lay());
            Check.due("none is kept", Check.NO_ELEMENT, () -> x.laid(0));
        }
        ShopEyes five = Check.shop("aisle 9 9;aisle 8 9;aisle 7 9;aisle 6 9;aisle 5 9;lapse 1 1 0 0;");
        lay("five", five, 5, 4, 0, 1, 2, 3);
        Check.feed(five, "aisle 1 1;".repeat(6));
        five.shop(60);
        Check.due("spent", -2, five.lay());
        Check.due("gone with its SHOP", Check.NO_ELEMENT, () -> five.laid(0));
        Check.due("gone with its SHOP", Check.NO_ELEMENT, () -> five.laid(5));
    }

    private static void rowIsKept() {
        Check.sentence("From which AISLE comes what is in one by the row that is kept. NoSuchElementException: also none is kept");
        ShopEyes x = Check.shop(ROW + "lapse 1 2 0 0 1 0;");
        for (int a = 0; a < 3; a++) {
            int aisle = a;
            Check.due("none is kept", Check.NO_ELEMENT, () -> x.laid(aisle));
        }
        x.lay();
        int[] due = {1, 0, 2};
        x.stops(2);
        x.watch(3, 1);
        x.undo();
        x.days(3);
        Check.feed(x, "x");
        x.shop(1);
        for (int a = 0; a < 3; a++) {
            Check.due("laid " + a, due[a], x.laid(a));
        }
        Check.due("laid 3", Check.NO_ELEMENT, () -> x.laid(3));
        x.stock(1, 0);
        lay("anew", x, 0, 0, 1, 2);
        x.shop(0);
        Check.due("of no AISLES", 0, x.lay());
        Check.due("no AISLE", Check.NO_ELEMENT, () -> x.laid(0));
        Check.feed(x, ROW);
        x.shop(ROW.length());
        Check.due("none is kept", Check.NO_ELEMENT, () -> x.laid(0));
    }

    private static void without() {
        Check.sentence("WITHOUT somebody: COST, did he not come");
        StringBuilder eight = new StringBuilder("aisle 1 99;");
        int sum = 0;
        for (int p = 0; p < 8; p++) {
            eight.append("aisle ").append(1 << p).append(" 9;way 0 ").append(p + 1).append(";lapse 1 2 0 0 ").append(p + 1).append(" 0;");
            sum += 1 << p;
        }
        ShopEyes x = Check.shop(eight.toString());
        for (int p = 0; p < 8; p++) {
            Check.due("without " + p, sum - (1 << p), x.without(p));
        }
        Check.due("without 8", Check.NO_ELEMENT, () -> x.without(8));
        ShopEyes next = Check.shop("aisle 4 1;lapse 1 1 0 0;lapse 2 1 0 0;");
        Check.due("another one takes it", 4, next.without(0));
        Check.due("the first one does", 4, next.without(1));
        ShopEyes crowd = Check.shop(ROW + "lapse 1 2 0 0 1 0;lapse 1 0 0 0 1 0;rule crowd;");
        Check.due("he isn't there", 50, crowd.without(1));
        Check.due("he is", 0, crowd.day(0));
        ShopEyes alone = Check.shop("aisle 4 1;lapse 1 1 0 0;");
        alone.watch(2, 0);
        Check.due("nobody comes", 0, alone.without(0));
        Check.due("no one", Check.NO_ELEMENT, () -> new ShopEyes().without(0));
    }

    private static void whatIsStays() {
        Check.sentence("(All of it for one DAY from now on; what is stays.)");
        String text = "aisle 9 3;aisle 8 3;aisle 7 3;way 0 1;way 1 2;mirror 2 0;lapse 1 1 4 0;lapse 1 2 5 0 1 0;thief 2 3 6 0 1 2 1 0;"
            + "buyer 1 2 7 0 1 0;rule coat;rule worth;";
        for (int acts = 0; acts < 3; acts++) {
            ShopEyes x = Check.shop(text);
            ShopEyes twin = Check.shop(text);
            for (ShopEyes one : new ShopEyes[] {x, twin}) {
                one.lay();
                one.image();
                if (acts > 0) {
                    one.watch(acts == 1 ? 3 : 2, 1);
                    one.days(2);
                    one.sign(4, true);
                    one.miss(1, 2);
                }
            }
            int cost = x.day(0);
            x.best(0, 0);
            x.best(1, 1);
            x.best(2, 0);
            x.cost(true);
            x.cost(false);
            x.glass(1);
            x.without(3);
            x.weeks(3, 30, 1);
            x.game(1);
            x.who(-1);
            x.odds(0, 1);
            x.line();
            x.gate(1, 2, 3, 4, 1);
            Check.due("the DAY", cost, x.day(0));
            Looks.same("asked with " + acts, x, twin);
        }
        ShopEyes left = Check.shop("aisle 5 2;lapse 1 1 0 0;");
        left.days(1);
        Check.due("one is left", 5, left.cost(false));
        left.days(1);
        Check.due("none is left", 0, left.cost(false));
        Rows.best("none is left", left, 1, 0, 0);
        Check.due("none is left", 0, left.lay());
        Check.due("none is left", 0, left.without(0));
    }

    private static void wrongInputs() {
        Check.sentence("NoSuchElementException: another by, what");
        ShopEyes x = Check.shop(ROW + "lapse 1 2 0 0 1 0;rule 1;");
        x.lay();
        Check.due("best 2 1", 0, x.best(2, 1));
        Check.due("best 3 0", Check.NO_ELEMENT, () -> x.best(3, 0));
        Check.due("best 3 1", Check.NO_ELEMENT, () -> x.best(3, 1));
        for (int by = 0; by < 3; by++) {
            int one = by;
            Check.due("best " + by + " 2", Check.NO_ELEMENT, () -> x.best(one, 2));
            Check.due("best " + by + " -1", Check.NO_ELEMENT, () -> x.best(one, -1));
        }
        for (int no : FAR_OFF) {
            Check.due("best " + no, Check.NO_ELEMENT, () -> x.best(no, 0));
            Check.due("best what " + no, Check.NO_ELEMENT, () -> x.best(0, no));
            Check.due("best, both " + no, Check.NO_ELEMENT, () -> x.best(no, no));
            Check.due("glass " + no, Check.NO_ELEMENT, () -> x.glass(no));
            Check.due("laid " + no, Check.NO_ELEMENT, () -> x.laid(no));
            Check.due("without " + no, Check.NO_ELEMENT, () -> x.without(no));
        }
        Check.due("glass 2", Check.NO_ELEMENT, () -> x.glass(2));
        ShopEyes six = Check.shop("aisle 1 1;".repeat(3) + "mirror 0 1;mirror 0 2;mirror 1 0;mirror 1 2;mirror 2 0;mirror 2 1;");
        Check.due("glass 2, also with 6", Check.NO_ELEMENT, () -> six.glass(2));
        ShopEyes none = new ShopEyes();
        Check.due("best 3 in no shop", Check.NO_ELEMENT, () -> none.best(3, 0));
        Check.due("best 0 2 in no shop", Check.NO_ELEMENT, () -> none.best(0, 2));
        Check.due("glass -1 in no shop", Check.NO_ELEMENT, () -> none.glass(-1));
    }
}
