/**
 * The document once more from its first line: its plain sentences, those that no test of the edges quotes, held
 * against one shop whose DAY is worked out by hand here.
 *
 * <pre>
 * MINUTE      1  2  3  4  5  6  7  8     the buyer takes in AISLE 1 in MINUTE 2, unseen, and pays in 6
 * buyer   0   0  1  2  1  0  -  -  -     the thief takes in AISLE 2 in MINUTE 4, seen; beside the detective
 * thief   1   -  0  1  2  2  1  0  -     from MINUTE 2 on, he has noticed in 5
 * lapse   2   -  -  0  3  0  -  -  -     who forgets takes in AISLE 3 in MINUTE 4, unseen: LOST in 6
 * staff   3   0  1  1  1  1  1  1  1
 * RULE 0      0  0  1  2  2  1  0  0     the detective, by coat * (took + 1) - far
 * RULE 1      0  1  0  3  0  0  0  0     by coat = 6 or minute < 3 and here = 2: who forgets is CAUGHT
 * </pre>
 */
public final class PlainTest {
    private static final String WAYS = "way 0 1; way 1 2; way 2 3; way 0 3;";
    private static final String SHOP = "aisle 0 0; aisle 40 2; aisle 15 3; aisle 90 1;" + WAYS + "mirror 1 0;"
        + "false 120; notice 4;" + "buyer 1 2 4 0 1 2 1 0;" + "thief 2 3 7 0 1 2 2 1 0;" + "lapse 3 2 6 0 3 0;" + "staff 1 0 0 0 1;"
        + "rule coat * (took + 1) - far;" + "rule coat = 6 or minute < 3 and here = 2;";
    private static final int BUYER = 0;
    private static final int THIEF = 1;
    private static final int LAPSE = 2;
    private static final int STAFF = 3;

    public static void main(String[] args) {
        newObject();
        tape();
        lines();
        sums();
        told();
        anew();
        dayByHand();
        stopped();
        followed();
        noticed();
        sight();
        better();
        laid();
        signs();
        missing();
        game();
        weeks();
        Check.end("PlainTest");
    }

    private static ShopEyes standing(int aisle) {
        ShopEyes x = Check.shop(SHOP);
        x.watch(3, aisle);
        return x;
    }

    private static ShopEyes following(int person) {
        ShopEyes x = Check.shop(SHOP);
        x.watch(2, person);
        return x;
    }

    private static void newObject() {
        Check.sentence("`NONE = -1`: There is none");
        Check.due("NONE", -1, ShopEyes.NONE);
        Check.sentence("`ShopEyes()`: No AISLES, nobody");
        ShopEyes x = new ShopEyes();
        int[] due = {0, 0, 0, 0, 0, 3, 400, 1, 0, 0, 0, 0, 0, 0, 0, 0, 0, 0, 0};
        for (int what = 0; what < due.length; what++) {
            Check.due("new: count " + what, due[what], x.count(what));
        }
        Check.due("no FAULT yet", ShopEyes.NONE, x.fault());
        Check.due("no AISLE 0", Check.NO_ELEMENT, () -> x.aisle(0, 0));
        Check.due("nobody", Check.NO_ELEMENT, () -> x.person(0, 0));
    }

    private static void tape() {
        Check.sentence("Twenty bytes come behind the tape, of each number the highest first: how many it has");
        ShopEyes x = new ShopEyes();
        Check.due("twenty", 20, x.feed(0x72756c65, 0x20310a3b, 0x7275, 0x6c652032, 0x3b202020));
        Check.due("forty", 40, x.feed(0x20202020, 0x20202020, 0x20202020, 0x20202020, 0x20202020));
        // "rule 1", a line's end, ";", two bytes of 0, which are no TOKEN
        Check.due("a byte of 0", 1, x.shop(40));
        Check.due("the ninth byte", 8, x.fault());
        x.feed(0x72756c65, 0x20310a3b, 0x20207275, 0x6c652032, 0x3b202020);
        Check.due("blanks there", 0, x.shop(20));
        Check.due("two RULES", 2, x.count(4));
    }

    private static void lines() {
        Check.sentence("SHOP: LINE*. LINE: ('aisle' WORTH STOCK | 'way' AISLE AISLE | 'mirror' AISLE AISLE |"
            + " .. | 'notice' NUMBER | 'false' NUMBER | 'stops' NUMBER | 'rule' EXPR) ';'");
        Check.due("no LINE", 0, Check.shop("").count(0));
        Check.due("three", 3, Check.shop("aisle 1 1;aisle 1 1;aisle 1 1;").count(0));
        String two = "aisle 7 8;aisle 9 10;";
        String[] good = {"way 0 1;", "mirror 0 1;", "buyer 1 0 0 0;", "thief 1 0 0 0;", "lapse 1 0 0 0;", "staff 1 0 0 0;", "notice 9;",
            "false 9;", "stops 2;", "rule 9;"};
        for (String line : good) {
            Check.fault(two + line, 0, -1);
            Check.fault(two + line.substring(0, line.length() - 1), 1, two.length() + line.length() - 1);
            Check.fault(two + line.replace(";", ")"), 1, two.length() + line.length() - 1);
            int number = line.indexOf(' ') + 1;
            Check.fault(two + line.substring(0, number) + ";", 1, two.length() + number);
            Check.fault(two + line.substring(0, number) + "(;", 1, two.length() + number + (line.startsWith("rule") ? 1 : 0));
        }
        Check.sentence("a SORT (0 buyer, 1 thief, 2 lapse, 3 staff), .. ('buyer' | 'thief' | 'lapse' | 'staff') IN TAKES COAT AISLE AISLE*");
        ShopEyes x = Check.shop("aisle 1 1;buyer 2 1 3 0;thief 4 0 5 0 0;lapse 6 3 7 0 0 0;staff 8 4 9 0 0 0 0;");
        for (int p = 0; p < 4; p++) {
            int[] due = {p, 2 + 2 * p, new int[] {1, 0, 3, 4}[p], 3 + 2 * p, p + 1};
            for (int what = 0; what < 5; what++) {
                Check.due("one: " + p + " " + what, due[what], x.person(p, what));
            }
        }
        Check.sentence("all in capitals but EXPR being NUMBERS");
        for (String word : new String[] {"aisle one 1;", "aisle 1 (1);", "aisle 1+1 1;", "notice coat;", "false 1*1;", "stops not 1;"}) {
            int second = word.indexOf(' ') + 1;
            int place = word.startsWith("aisle 1+") || word.startsWith("false") ? second + 1 : word.startsWith("aisle 1") ? second + 2 : second;
            Check.fault(word, 1, place);
        }
    }

    private static void sums() {
        Check.sentence("SUM: PRODUCT (('+' | '-') PRODUCT)*. PRODUCT: PART (('*' | '/') PART)*. PART: NUMBER | VALUE | '(' EXPR ')'");
        holds("1 + 2 * 3 = 7");
        holds("(1 + 2) * 3 = 9");
        holds("9 - 3 - 2 = 4");
        holds("9 - (3 - 2) = 8");
        holds("100 / 10 / 5 = 2");
        holds("100 / (10 / 5) = 50");
        holds("2 * 7 / 4 * 2 - 5 / 2 = 4");
        holds("coat * here * minute = 36");
        holds("((coat)) + ((((1)))) = 10");
        holds("(1 < 2) + (not 0) = 2");
        String[] bad = {"1 +", "* 2", "1 - - 2", "1 * * 2", "1 + ;", "( )", "(1", "1 < 2 < 3", "1 = 1 = 1", "1 < = 2", "coat coat", "1 (2)"};
        int[] places = {3, 0, 4, 4, 4, 2, 2, 6, 6, 4, 5, 2};
        for (int i = 0; i < bad.length; i++) {
            Check.fault("rule " + bad[i] + ";", 1, 5 + places[i]);
        }
    }

    /** One with COAT 9 is in AISLE 1 in MINUTE 2: the detective goes there then, if the EXPR holds. */
    private static void holds(String expr) {
        String text = "aisle 1 1;aisle 1 1;way 0 1;lapse 1 0 9 0 1;rule minute = 2 and (" + expr + ");rule minute = 2 and not (" + expr + ");";
        ShopEyes x = Check.shop(text);
        Check.due(expr, 1, x.eyes(2));
        x.watch(1, 1);
        Check.due("not (" + expr + ")", 0, x.eyes(2));
    }

    private static void told() {
        Check.sentence("0 AISLES, 1 WAYS, 2 MIRRORS, 3 PEOPLE, 4 RULES, 5 NOTICE, 6 FALSE, 7 STOPS, 8 the WATCH (0 nobody, 1 a RULE, 2 somebody, 3 an AISLE)");
        ShopEyes x = Check.shop(SHOP);
        Rows.count("told", x, 0, 4, 1, 4, 2, 1, 3, 4, 4, 2, 5, 4, 6, 120, 7, 1, 8, 1, 9, 0, 10, 0, 11, 0, 12, 0, 13, 0, 14, 0, 15, 0, 16, 0, 17, 0, 18, 0);
        Check.sentence(".. 9 which (0 without), 10 OPEN (1), 11 DAYS that there were, .. 13 SIGNS, 14 MISSING, 15 bytes of the tape, 16 to 18 STATUS 0 to 2");
        x.watch(2, 3);
        x.open(true);
        x.stops(2);
        x.mirror(2, 3);
        x.days(4);
        x.sign(1, true);
        x.sign(2, true);
        x.miss(1, 2);
        x.sign(10, true);
        x.watch(2, 4);
        x.watch(4, 2);
        Check.feed(x, "?");
        x.shop(1);
        Check.feed(x, "?");
        Rows.count("now", x, 2, 2, 7, 2, 8, 2, 9, 3, 10, 1, 11, 4, 12, 5, 13, 2, 14, 1, 15, 20, 16, 1, 17, 2, 18, 1);
        x.watch(0, 3);
        Rows.count("nobody", x, 8, 0, 9, 0);
        x.watch(3, 2);
        Rows.count("an AISLE", x, 8, 3, 9, 2);
        Check.sentence("Of an AISLE: 0 WORTH, 1 STOCK, 2 joined with (bits), 3 what is SEEN in it but itself (bits)");
        int[][] aisles = {{0, 0, 10, 0}, {40, 2, 5, 1}, {15, 3, 10, 0}, {90, 1, 5, 0}};
        ShopEyes y = Check.shop(SHOP);
        for (int aisle = 0; aisle < 4; aisle++) {
            for (int what = 0; what < 4; what++) {
                Check.due("aisle " + aisle + " " + what, aisles[aisle][what], y.aisle(aisle, what));
            }
        }
        Check.sentence("couples of AISLES that are joined. .. in one AISLE one sees another one too");
        Check.due("joined with AISLE 0", 10, y.aisle(0, 2));
        Check.due("joined with AISLE 3", 5, y.aisle(3, 2));
        Check.due("AISLE 1 shows the door", 1, y.aisle(1, 3));
        Check.due("the door doesn't show AISLE 1", 0, y.aisle(0, 3));
        Check.sentence("Of somebody: 0 SORT, 1 IN, 2 TAKES, 3 COAT, 4 AISLES of the ROUTE");
        int[][] people = {{0, 1, 2, 4, 5}, {1, 2, 3, 7, 6}, {2, 3, 2, 6, 3}, {3, 1, 0, 0, 2}};
        for (int p = 0; p < 4; p++) {
            for (int what = 0; what < 5; what++) {
                Check.due("person " + p + " " + what, people[p][what], y.person(p, what));
            }
        }
        Check.sentence("THE WATCH: true");
        Check.due("nobody", true, y.watch(0, 0));
        Check.due("a RULE", true, y.watch(1, 1));
        Check.due("somebody", true, y.watch(2, 3));
        Check.due("an AISLE", true, y.watch(3, 3));
        Check.sentence("A MIRROR more: how many there are");
        Check.due("two", 2, y.mirror(2, 3));
        Check.due("three", 3, y.mirror(3, 2));
        Check.due("what is SEEN in AISLE 2", 8, y.aisle(2, 3));
    }

    private static void anew() {
        Check.sentence("all anew: 0, .. ACTS, SIGNS, MISSING, rows that are kept, the image are gone");
        ShopEyes x = following(LAPSE);
        x.open(true);
        x.mirror(0, 1);
        x.stock(1, 9);
        x.days(2);
        x.sign(1, true);
        x.miss(1, 2);
        x.lay();
        x.image();
        Check.feed(x, SHOP);
        Check.due("again", 0, x.shop(SHOP.length()));
        Rows.count("anew", x, 2, 1, 8, 1, 9, 0, 10, 0, 11, 0, 12, 0, 13, 0, 14, 0, 15, 0);
        Check.due("the STOCK that is told", 2, x.aisle(1, 1));
        Check.due("the MIRROR isn't there", 0, x.aisle(0, 3));
        Check.due("no ACT", -1, x.undo());
        Check.due("nothing is MISSING", Check.NO_ELEMENT, () -> x.who(0));
        Check.due("no row", Check.NO_ELEMENT, () -> x.laid(0));
        Check.due("no image", false, x.restore());
        Check.due("a DAY of it", 90, x.day(0));
    }

    private static void dayByHand() {
        ShopEyes x = Check.shop(SHOP);
        Check.sentence("Of a DAY now: 0 COST, 1 THINGS LOST, 2 CAUGHT, 3 FALSE ones, 4 paid, 5 who were SEEN TAKING (bits), 6 who NOTICED (bits), 7 who is CAUGHT (bits)");
        Rows.day("RULE 0", x, 90, 1, 0, 0, 1, 2, 2, 0);
        ShopEyes y = Check.shop(SHOP);
        y.watch(1, 1);
        Rows.day("RULE 1", y, 15, 1, 1, 0, 1, 5, 0, 4);
        Check.sentence("Where somebody is at the end of a MINUTE (1 to 60): the AISLE; NONE: not in");
        Rows.where("the buyer", x, BUYER, 0, 1, 2, 1, 0, -1, -1, -1);
        Rows.where("the thief", x, THIEF, -1, 0, 1, 2, 2, 1, 0, -1);
        Rows.where("who forgets", x, LAPSE, -1, -1, 0, 3, 0, -1, -1, -1);
        Rows.where("the staff", x, STAFF, 0, 1, 1, 1, 1, 1, 1, 1);
        Check.sentence("Where the DETECTIVE is at the end of a MINUTE; NONE: he isn't there");
        Rows.eyes("RULE 0", x, 0, 0, 1, 2, 2, 1, 0, 0);
        Rows.eyes("RULE 1", y, 0, 1, 0, 3, 0, 0, 0, 0);
        y.watch(0, 0);
        Rows.eyes("nobody watches", y, -1, -1, -1, -1, -1, -1, -1, -1);
        Check.sentence("What somebody has at the end of a MINUTE: the AISLE that it is from; NONE: nothing");
        Rows.has("the buyer", x, BUYER, -1, 1, 1, 1, 1, -1, -1, -1);
        Rows.has("the thief", x, THIEF, -1, -1, -1, 2, -1, -1, -1, -1);
        Rows.has("who forgets", x, LAPSE, -1, -1, -1, 3, 3, -1, -1, -1);
        Rows.has("the staff", x, STAFF, -1, -1, -1, -1, -1, -1, -1, -1);
        Check.due("three DAYS, the dear one is gone behind the first", 90, x.days(3));
        int[] left = {0, 0, 3, 0};
        for (int aisle = 0; aisle < 4; aisle++) {
            Check.due("left " + aisle, left[aisle], x.aisle(aisle, 1));
        }
    }

    private static void stopped() {
        Check.sentence("if STOPS isn't 0 and he was SEEN TAKING and kept in SIGHT up to the minute ahead; also if STOPS is 2 and he was SEEN TAKING");
        int[][] due = {{105, 2, 0, 0, 1, 4, 0, 0}, {105, 2, 0, 0, 1, 4, 0, 0}, {15, 1, 1, 0, 1, 4, 0, 4}};
        int[][] mirrored = {{105, 2, 0, 0, 1, 4, 0, 0}, {15, 1, 1, 0, 1, 4, 0, 4}, {15, 1, 1, 0, 1, 4, 0, 4}};
        ShopEyes x = standing(3);
        ShopEyes y = standing(3);
        y.mirror(3, 0);
        for (int stops = 0; stops <= 2; stops++) {
            x.stops(stops);
            y.stops(stops);
            Rows.day("STOPS " + stops, x, due[stops]);
            Rows.day("to the door, STOPS " + stops, y, mirrored[stops]);
        }
        Check.sentence("If STOPS is 2, a buyer who was SEEN TAKING, but not kept in SIGHT up to the minute ahead, is stopped, too");
        int[] costs = {105, 105, 225};
        ShopEyes z = standing(1);
        for (int stops = 0; stops <= 2; stops++) {
            z.stops(stops);
            Rows.day("STOPS " + stops, z, costs[stops], 2, 0, stops == 2 ? 1 : 0, 1, 1, 0, 0);
        }
    }

    private static void followed() {
        Check.sentence("told somebody, him, while he is in");
        Rows.eyes("the buyer", following(BUYER), 0, 1, 2, 1, 0, 0, 0, 0);
        Rows.eyes("the thief", following(THIEF), 0, 0, 1, 2, 2, 1, 0, 0);
        Rows.eyes("who forgets", following(LAPSE), 0, 0, 0, 3, 0, 0, 0, 0);
        Rows.eyes("the staff", following(STAFF), 0, 1, 1, 1, 1, 1, 1, 1);
        Rows.day("the buyer", following(BUYER), 105, 2, 0, 0, 1, 1, 0, 0);
        Rows.day("the thief", following(THIEF), 90, 1, 0, 0, 1, 2, 2, 0);
        Rows.day("who forgets", following(LAPSE), 15, 1, 1, 0, 1, 4, 0, 4);
        Rows.day("the staff", following(STAFF), 105, 2, 0, 0, 1, 1, 0, 0);
        Check.sentence("He stays where he is, .. or there is no way");
        ShopEyes x = Check.shop("aisle 0 0;aisle 0 0;way 0 1;lapse 1 0 0 0 1;");
        x.watch(2, 0);
        Rows.eyes("a way", x, 0, 1, 1);
        // All are joined with the door by their ROUTE: who is in can always be reached, but not told somebody who isn't.
        ShopEyes late = Check.shop("aisle 0 0;aisle 0 0;way 0 1;lapse 60 0 0 0 1;");
        late.watch(2, 0);
        Check.due("the last MINUTE", 0, late.eyes(60));
    }

    private static void noticed() {
        Check.sentence("takes a thing, if there is STOCK, unless he has NOTICED");
        ShopEyes x = following(THIEF);
        x.open(true);
        Rows.has("noticed in MINUTE 2", x, THIEF, -1, -1, -1, -1, -1);
        Rows.day("OPEN", x, 90, 1, 0, 0, 1, 0, 2, 0);
        x.open(false);
        Rows.has("noticed in MINUTE 5", x, THIEF, -1, -1, -1, 2, -1);
        Check.sentence("He is HIDDEN, or OPEN");
        Check.due("HIDDEN", 90, Check.shop(SHOP).cost(false));
        Check.due("OPEN", 90, Check.shop(SHOP).cost(true));
        Check.due("HIDDEN", 15, following(LAPSE).cost(false));
        Check.due("OPEN: the thief is beside him at the door", 0, following(LAPSE).cost(true));
    }

    private static void sight() {
        Check.sentence("he is in SIGHT from then on");
        // Seen at the door ahead of his taking in AISLE 3 alone, he is not in SIGHT.
        ShopEyes x = standing(0);
        Rows.day("not from his coming on", x, 105, 2, 0, 0, 1, 0, 0, 0);
        ShopEyes y = standing(0);
        y.mirror(0, 3);
        Rows.day("from his taking on", y, 15, 1, 1, 0, 1, 4, 0, 4);
    }

    private static void better() {
        ShopEyes x = Check.shop(SHOP);
        Check.sentence("WHERE TO STAND (0), WHOM TO FOLLOW (1), WHICH RULE (2): what is best (what 0; .. COST by it (1; NONE: there is none)");
        Rows.best("all are alike", x, 0, 0, 105);
        Rows.best("who forgets", x, 1, LAPSE, 15);
        Rows.best("RULE 1", x, 2, 1, 15);
        Rows.best("no AISLES", new ShopEyes(), 0, -1, -1);
        Rows.best("nobody", new ShopEyes(), 1, -1, -1);
        Check.sentence("COST, were he OPEN, HIDDEN");
        x.watch(1, 1);
        Check.due("OPEN: the thief comes beside him at the door", 0, x.cost(true));
        Check.due("HIDDEN", 15, x.cost(false));
        Check.sentence("WHERE A MIRROR should be: .. that by which COST is least");
        Rows.glass("AISLE 3, to see the door", standing(3), 30, 15);
        Check.sentence("10 by the AISLE in which it is and the other one (what 0; .. COST then (1;");
        Rows.glass("the door, to see AISLE 3", standing(0), 3, 15);
        Rows.glass("no single one", Check.shop(SHOP), -1, -1);
        Check.sentence("WITHOUT somebody: COST");
        int[] due = {90, 90, 0, 90};
        ShopEyes y = Check.shop(SHOP);
        for (int p = 0; p < 4; p++) {
            Check.due("without " + p, due[p], y.without(p));
        }
    }

    private static void laid() {
        Check.sentence("WHAT TO LAY WHERE: COST; the row is kept");
        ShopEyes x = Check.shop(SHOP);
        Check.due("nothing is lost", 0, x.lay());
        Rows.laid("what is worth nothing in AISLE 3", x, 1, 2, 3, 0);
        x.watch(0, 0);
        Rows.laid("still kept", x, 1, 2, 3, 0);
        Check.due("two things", 15, x.lay());
        Rows.laid("what is worth nothing and least in AISLES 2 and 3", x, 1, 3, 0, 2);
        Check.sentence("SPENT: more than 5 AISLES");
        Check.due("5", 0, Check.shop("aisle 1 1;".repeat(5)).lay());
        ShopEyes six = Check.shop("aisle 1 1;".repeat(6));
        Check.due("6", -2, six.lay());
        Check.sentence("-2: SPENT (what is kept stays)");
        Check.due("none is kept", Check.NO_ELEMENT, () -> six.laid(0));
    }

    private static void signs() {
        Check.sentence("a COAT (0 to 9), whether he had something");
        ShopEyes y = new ShopEyes();
        y.sign(9, false);
        Rows.odds("he hadn't", y, 9, 0, 1);
        y.sign(9, true);
        Rows.odds("another one had", y, 9, 1, 2);
        ShopEyes x = Check.shop(SHOP);
        Check.sentence("SIGNS: how many are told");
        Check.due("one", 1, x.sign(7, true));
        Check.due("two", 2, x.sign(4, false));
        Check.due("three", 3, x.sign(6, true));
        Check.sentence("ODDS: the upper part (what 0), the lower one (1)");
        Rows.odds("of all", x, 0, 2, 3);
        Rows.odds("of two", x, 5, 1, 1);
        Rows.odds("of one", x, 7, 1, 1);
        Rows.odds("of none", x, 8, 0, 1);
        Check.sentence("THE LINE; NONE: none");
        Check.due("from 0 on", 0, x.line());
        x.sign(3, false);
        Check.due("two of four are not more", 4, x.line());
        Check.due("none", -1, new ShopEyes().line());
        Check.sentence("A GATE that beeps at so many tenths of those who have, at so many of those who haven't (0 to 10 each): of so many who have (0 to 99) among so many (1 to 99)");
        Rows.gate(2, 10, 9, 1, 9, 13);
        Rows.gate(2, 10, 10, 0, 1, 1);
        Rows.gate(2, 10, 0, 10, 0, 1);
        Rows.gate(99, 99, 1, 10, 1, 1);
        Check.sentence("A GATE: the upper part (what 0), the lower one (1)");
        Rows.gate(1, 99, 10, 10, 1, 99);
        Rows.gate(0, 1, 5, 5, 0, 1);
    }

    private static void missing() {
        Check.sentence("WHO CAN HAVE the i-th MISSING thing, as bits; THE FEWEST (i NONE), as bits; NONE: none");
        ShopEyes x = Check.shop(SHOP);
        x.miss(1, 3);
        x.miss(3, 10);
        Check.due("in AISLE 1 up to MINUTE 3", 11, x.who(0));
        Check.due("in AISLE 3", 4, x.who(1));
        Check.due("one of three, and that one", 5, x.who(ShopEyes.NONE));
        Check.sentence("MISSING: how many are told");
        Check.due("the third one", 3, x.miss(3, 3));
        Check.due("nobody yet", 0, x.who(2));
        Check.due("none", ShopEyes.NONE, x.who(ShopEyes.NONE));
    }

    private static void game() {
        Check.sentence("how many rest (what 0), the first (1; NONE: none rests), SAFEST (2), that most (3); NONE of 2, 3: there are no AISLES");
        Rows.game("none rests", Check.shop(SHOP), 0, -1, 3, 40);
        Rows.game("no AISLES", new ShopEyes(), 0, -1, -1, -1);
        Check.sentence("how many; the first (10 by the thief's, the DETECTIVE's)");
        Rows.game("the thief by the door, the DETECTIVE in AISLE 1", Check.shop("aisle 5 1;aisle 7 1;mirror 1 0;false 30;"), 2, 1, 1, -3);
        Check.sentence("the DETECTIVE gains 0 less that");
        Rows.game("what he doesn't see costs him", Check.shop("aisle 5 1;aisle 7 1;mirror 0 1;false 30;"), 2, 0, 0, -3);
        Rows.game("he sees neither from AISLE 1", Check.shop("aisle 5 1;aisle 7 1;false 30;"), 0, -1, 1, 5);
    }

    private static void weeks() {
        Check.sentence("for each of PEOPLE, in order, a DRAW of 2");
        // From seed 1: 0 0 1 1, then 1 1 0 1, then 0 0 1 1: who forgets comes without the thief, and is CAUGHT by RULE 0.
        ShopEyes x = Check.shop(SHOP);
        Rows.weeks("no DAY", x, 1, 0, 0, 0, 0);
        Rows.weeks("RULE 0", x, 1, 3, 0, 0, 0);
        Check.sentence("WEEKS: COST (what 0), the most (1), THINGS (2)");
        x.watch(0, 0);
        Rows.weeks("who forgets", x, 1, 1, 90, 90, 1);
        Rows.weeks("the thief a DAY later", x, 1, 2, 105, 90, 2);
        Rows.weeks("nothing is left of it", x, 1, 3, 105, 90, 2);
        x.stock(3, 2);
        Rows.weeks("one more is left", x, 1, 3, 195, 90, 3);
    }
}
