/** The edges of a DAY (part 2, promises 17 to 20), each sentence of its order by itself. */
public final class DayEdgesTest {
    private static final String ROW = "aisle 0 9;aisle 50 9;aisle 20 9;way 0 1;way 1 2;";
    private static final String[] SORTS = {"buyer", "thief", "lapse", "staff"};
    private static final int BUYER = 0;

    public static void main(String[] args) {
        atFirst();
        notThere();
        sees();
        comes();
        leavesOrStays();
        whoLeaves();
        minuteAhead();
        falseOnes();
        putBack();
        nearer();
        leastOfLikeOnes();
        nobodyToFollow();
        standsThere();
        besideForNotice();
        notOneAfterTheOther();
        open();
        thievesAlone();
        noticedInTime();
        takesOnce();
        takesInTheLastMinute();
        takesIfThereIsStock();
        noMoreInSight();
        endOfTheDay();
        whatADayCosts();
        asked();
        Check.end("DayEdgesTest");
    }

    private static ShopEyes watched(String text, int how, int which) {
        ShopEyes x = Check.shop(text);
        x.watch(how, which);
        return x;
    }

    private static void atFirst() {
        Check.sentence("THE DETECTIVE is in AISLE 0 at first");
        Rows.eyes("somebody who comes late", watched(ROW + "lapse 9 0 0 0 1;", 2, 0), 0, 0, 0, 0, 0, 0, 0, 0, 0, 1);
        Rows.eyes("a RULE for nobody", Check.shop(ROW + "rule 1;"), 0, 0, 0);
        Rows.eyes("one AISLE", Check.shop("aisle 1 1;rule 1;"), 0, 0);
        Check.due("to the end", 0, Check.shop("aisle 1 1;rule 1;").eyes(60));
        Rows.eyes("on each DAY anew", watched(ROW + "lapse 2 0 0 0 1 2;", 2, 0), 0, 0, 1, 2);
        ShopEyes again = watched(ROW + "lapse 2 0 0 0 1 2;", 2, 0);
        again.days(2);
        Rows.eyes("on each DAY anew", again, 0, 0, 1, 2);
    }

    private static void notThere() {
        Check.sentence("(not there at all, if nobody watches, or there are no AISLES)");
        ShopEyes nobody = watched(ROW + "lapse 1 1 0 0;rule 1;", 0, 0);
        ShopEyes none = Check.shop("rule 1;");
        Check.due("a RULE is the WATCH", 1, none.count(8));
        for (int minute = 1; minute <= 60; minute++) {
            Check.due("nobody watches", -1, nobody.eyes(minute));
            Check.due("no AISLES", -1, none.eyes(minute));
        }
        Check.due("nobody sees", 0, nobody.day(5));
        nobody.watch(3, 0);
        Check.due("he sees", 1, nobody.day(5));
    }

    private static void sees() {
        Check.sentence("He SEES his AISLE, and what MIRRORS show in it");
        String trip = "lapse 1 2 0 0 1 2;";
        Check.due("shown", 1, watched(ROW + "mirror 2 1;" + trip, 3, 2).day(5));
        Check.due("another is shown", 0, watched(ROW + "mirror 2 0;" + trip, 3, 2).day(5));
        Check.due("his own", 1, watched(ROW + trip, 3, 1).day(5));
        Check.due("beside it", 0, watched(ROW + trip, 3, 2).day(5));
        Check.due("the MIRROR is in another one", 0, watched(ROW + "mirror 0 1;" + trip, 3, 2).day(5));
        Check.due("the other way round", 0, watched(ROW + "mirror 1 2;" + trip, 3, 2).day(5));
        Check.due("no MIRROR of a MIRROR", 0, watched(ROW + "mirror 2 0;mirror 0 1;" + trip, 3, 2).day(5));
        StringBuilder ten = new StringBuilder("aisle 1 1;".repeat(10)).append("way 0 9;mirror 9 0;lapse 1 1 0 0;lapse 1 2 0 0 9;");
        Check.due("the last one, and the first from it", 3, watched(ten.toString(), 3, 9).day(5));
    }

    private static void comes() {
        Check.sentence("who comes in it is in the first AISLE of the ROUTE; who is in goes on to the next one of it");
        ShopEyes x = Check.shop(ROW + "lapse 1 0 0 0 1 2 2 1;lapse 60 0 0 0 1 0;lapse 59 0 0 0 1 0;");
        int[] route = {0, 1, 2, 2, 1, 1, 1};
        for (int i = 0; i < route.length; i++) {
            Check.due("from MINUTE 1 on", route[i], x.where(0, i + 1));
        }
        Check.due("not yet", -1, x.where(1, 59));
        Check.due("in MINUTE 60", 0, x.where(1, 60));
        Check.due("not yet", -1, x.where(2, 58));
        Check.due("in MINUTE 59", 0, x.where(2, 59));
        Check.due("goes on in MINUTE 60", 1, x.where(2, 60));
        Check.due("not yet", -1, x.where(2, 1));
    }

    private static void leavesOrStays() {
        Check.sentence("who has come to its end leaves, if that is AISLE 0 (else stays there)");
        String twelve = " 0" + " 1".repeat(10) + " 0;";
        ShopEyes x = Check.shop(ROW + "lapse 5 0 0 0;lapse 5 0 0 0 0;lapse 5 0 0 0 1;lapse 5 0 0 0 1 0;"
            + "lapse 49 0 0" + twelve + "lapse 48 0 0" + twelve + "lapse 47 0 0" + twelve);
        int[][] due = {{0, 5, 0}, {0, 6, -1}, {0, 60, -1}, {1, 6, 0}, {1, 7, -1}, {2, 6, 1}, {2, 7, 1}, {2, 60, 1},
            {3, 6, 1}, {3, 7, 0}, {3, 8, -1}, {4, 59, 1}, {4, 60, 0}, {5, 59, 0}, {5, 60, -1}, {6, 58, 0}, {6, 59, -1}};
        for (int[] one : due) {
            Check.due("where " + one[0] + " " + one[1], one[2], x.where(one[0], one[1]));
        }
    }

    /** All sorts by all STOPS, from where nothing is seen, the taking alone, the way out alone, all of it. */
    private static void whoLeaves() {
        Check.sentence("Who leaves with a thing: a buyer pays; else he is CAUGHT, .. else it is LOST");
        String[] mirrors = {"", "mirror 2 1;", "mirror 2 0;", "mirror 2 1;mirror 2 0;"};
        for (int sort = 0; sort < 4; sort++) {
            for (int stops = 0; stops <= 2; stops++) {
                for (int seen = 0; seen < 4; seen++) {
                    ShopEyes x = watched(ROW + mirrors[seen] + "false 7;" + SORTS[sort] + " 1 2 0 0 1 1 0;", 3, 2);
                    x.stops(stops);
                    boolean taking = seen == 1 || seen == 3;
                    boolean buyer = sort == BUYER;
                    boolean caught = !buyer && (stops == 1 && seen == 3 || stops == 2 && taking);
                    boolean wrongly = buyer && stops == 2 && seen == 1;
                    boolean lost = !buyer && !caught;
                    Rows.day(SORTS[sort] + ", STOPS " + stops + ", seen " + seen, x, lost ? 50 : wrongly ? 7 : 0, lost ? 1 : 0,
                        caught ? 1 : 0, wrongly ? 1 : 0, buyer ? 1 : 0, taking ? 1 : 0, 0, caught ? 1 : 0);
                    Check.due("a DAY of it", lost ? 50 : wrongly ? 7 : 0, x.days(1));
                    Check.due("what is left", caught ? 9 : 8, x.aisle(1, 1));
                }
            }
        }
    }

    private static void minuteAhead() {
        Check.sentence("kept in SIGHT up to the minute ahead");
        String trip = "lapse 1 2 0 0 1 1 0;";
        // The one who is followed goes on from the door in the minute in which the other one leaves.
        Rows.day("looks away as he leaves", watched(ROW + trip + "staff 1 0 0 0 1 1 0 1;", 2, 1), 0, 0, 1, 0, 0, 1, 0, 1);
        Rows.day("looks away a minute ahead", watched(ROW + trip + "staff 1 0 0 0 1 1 1 0;", 2, 1), 50, 1, 0, 0, 0, 1, 0, 0);
        Rows.day("looks away and back", watched(ROW + "lapse 1 2 0 0 1 1 1 1 0;" + "staff 1 0 0 0 1 1 2 1 0 0;", 2, 1), 50, 1, 0, 0, 0, 1, 0, 0);
        Rows.day("at once at the door", watched(ROW.replace("aisle 0 9", "aisle 3 9") + "lapse 1 1 0 0;", 3, 0), 0, 0, 1, 0, 0, 1, 0, 1);
        Rows.day("out in MINUTE 60", watched(ROW + "mirror 2 1;mirror 2 0;lapse 57 2 0 0 1 0;", 3, 2), 0, 0, 1, 0, 0, 1, 0, 1);
    }

    private static void falseOnes() {
        Check.sentence("is stopped, too: FALSE (he has paid)");
        String two = "mirror 2 1;buyer 1 2 0 0 1 0;buyer 5 2 0 0 1 0;lapse 5 2 0 0 1 0;stops 2;";
        Rows.day("400 without", watched(ROW + two, 3, 2), 800, 0, 1, 2, 2, 7, 0, 4);
        Rows.day("nothing", watched(ROW + two + "false 0;", 3, 2), 0, 0, 1, 2, 2, 7, 0, 4);
        Rows.day("the most", watched(ROW + two + "false 999;", 3, 2), 1998, 0, 1, 2, 2, 7, 0, 4);
        ShopEyes x = watched(ROW + two, 3, 2);
        x.days(1);
        Check.due("two have paid", 7, x.aisle(1, 1));
        Rows.day("who took nothing is not", watched(ROW + two.replace(" 2 0 0 1 0", " 0 0 0 1 0"), 3, 2), 0, 0, 0, 0, 0, 0, 0, 0);
    }

    private static void putBack() {
        Check.sentence("What is CAUGHT is put back");
        String one = "aisle 0 0;aisle 9 1;way 0 1;mirror 1 0;lapse 1 2 0 0 1 0;";
        ShopEyes x = watched(one + "buyer 2 2 0 0 1 0;buyer 3 2 0 0 1 0;", 3, 1);
        Rows.has("it is gone a minute ahead", x, 1, -1, -1, -1, -1);
        Rows.has("there in the minute in which he leaves", x, 2, -1, -1, -1, 1, 1, -1);
        Check.due("one has paid", 0, x.days(1));
        Check.due("it is gone then", 0, x.aisle(1, 1));
        ShopEyes alone = watched(one, 3, 1);
        alone.days(30);
        Check.due("there on each DAY", 1, alone.aisle(1, 1));
    }

    private static void nearer() {
        Check.sentence("THE DETECTIVE goes one AISLE nearer (by the fewest WAYS; of like ones the least AISLE)");
        StringBuilder row = new StringBuilder("aisle 0 0;".repeat(10));
        for (int a = 1; a < 10; a++) {
            row.append("way ").append(a - 1).append(' ').append(a).append(';');
        }
        String late = "staff 1 0 0 0 1 2 3 4 5 6 7 8 9;lapse 20 0 1 0;lapse 30 0 2 0 0 0 0 0 0 0 0 0;";
        ShopEyes x = watched(row + late + "rule 0;", 2, 0);
        Rows.eyes("behind him", x, 0, 1, 2, 3, 4, 5, 6, 7, 8, 9, 9);
        ShopEyes back = Check.shop(row + "lapse 1 0 1 0 1 2 3 4 5 6 7 8 9;lapse 30 0 2 0 0 0 0 0 0 0 0 0 0 0;rule coat;");
        int[] due = {9, 8, 7, 6, 5, 4, 3, 2, 1, 0, 0, 0, 1, 2};
        for (int i = 0; i < due.length; i++) {
            Check.due("eyes " + (29 + i), due[i], back.eyes(29 + i));
        }
        String ring = "aisle 0 0;".repeat(6) + "way 0 1;way 1 2;way 2 3;way 3 4;way 4 5;way 5 0;";
        ShopEyes round = Check.shop(ring + "staff 1 0 0 0 5 4;lapse 2 0 1 0 5 4 3;rule here=4;");
        Rows.eyes("the shorter way round a ring", round, 0, 0, 0, 0, 1, 1);
        Rows.eyes("the shorter way round a ring", watched(ring + "staff 1 0 0 0 0 5 4;rule 0;", 2, 0), 0, 0, 5, 4, 4);
        Rows.eyes("not through a like far AISLE", Check.shop("aisle 0 0;".repeat(4) + "way 0 1;way 0 2;way 1 2;way 2 3;"
            + "lapse 1 0 1 0 0 2 3;rule here=4;"), 0, 0, 0, 2, 2);
        Rows.eyes("not through a nearer number", Check.shop("aisle 0 0;".repeat(4) + "way 0 3;way 3 2;way 0 1;"
            + "lapse 1 0 1 0 0 3 2;rule here=4;"), 0, 0, 0, 3, 3);
    }

    private static void leastOfLikeOnes() {
        Check.sentence("of like ones the least AISLE");
        String[] ways = {"way 0 1;way 0 2;way 1 3;way 2 3;", "way 3 2;way 2 0;way 3 1;way 1 0;"};
        for (String some : ways) {
            String text = "aisle 0 0;".repeat(4) + some;
            Rows.eyes("by 2", Check.shop(text + "lapse 1 0 1 0 2 3;rule here=3;"), 0, 0, 1, 1);
            Rows.eyes("by 1", Check.shop(text + "lapse 1 0 1 0 1 3;rule here=3;"), 0, 0, 1, 1);
            Rows.eyes("back", Check.shop(text + "lapse 1 0 1 0 2 3;lapse 9 0 2 0 0 0 0;rule coat;"), 0, 2, 3, 3, 3, 3, 3, 3, 1, 0, 0);
        }
    }

    private static void nobodyToFollow() {
        Check.sentence("(of like ones the least; nobody else)");
        String both = ROW + "lapse 1 0 3 0 1;lapse 1 0 3 0 0 0 0;";
        Rows.eyes("the least of two", Check.shop(both + "rule coat;"), 0, 1, 1);
        Rows.eyes("the other one gives more", Check.shop(both + "rule 9-worth;"), 0, 0, 0);
        Rows.eyes("staff gives most", Check.shop(ROW + "staff 1 0 9 0 1;lapse 1 0 1 0;rule coat;"), 0, 0, 0);
        Rows.eyes("who has left", Check.shop(ROW + "lapse 1 0 9 0 1 0;lapse 1 0 1 0 0 0 0 1;rule coat;"), 0, 1, 0, 0, 1);
        Check.sentence("He stays where he is, if nobody is to be followed, if he is there");
        Rows.eyes("he has left", watched(ROW + "lapse 1 0 9 0 1 2 1 0;", 2, 0), 0, 1, 2, 1, 0, 0, 0);
        Rows.eyes("left him behind", Check.shop(ROW + "lapse 1 0 9 0 1 2 1 0;rule here<4;"), 0, 1, 2, 2, 2, 2);
        Rows.eyes("told staff", watched(ROW + "staff 1 0 9 0 1 2 1 0;", 2, 0), 0, 1, 2, 1, 0, 0, 0);
    }

    private static void standsThere() {
        Check.sentence("or he stands in a told AISLE (there from the first minute on)");
        ShopEyes x = watched(ROW + "lapse 1 0 9 0 1;", 3, 2);
        for (int minute = 1; minute <= 60; minute++) {
            Check.due("eyes " + minute, 2, x.eyes(minute));
        }
        ShopEyes island = watched(ROW + "aisle 1 1;", 3, 3);
        Check.due("where there is no way to", 3, island.eyes(1));
        Check.due("from the first minute on", 1, watched("aisle 3 1;lapse 1 1 0 0;", 3, 0).day(5));
    }

    /** A thief is in AISLE 1 with him for so many minutes; he took there in the first of them. */
    private static void besideForNotice() {
        Check.sentence("BESIDE for NOTICE minutes one after the other (OPEN: for one) he has NOTICED");
        for (int notice = 1; notice <= 9; notice++) {
            for (int minutes = 1; minutes <= 9; minutes++) {
                String text = ROW + "notice " + notice + ";thief 1 2 0 0" + " 1".repeat(minutes) + " 0;";
                boolean noticed = minutes >= notice;
                Rows.day("NOTICE " + notice + ", " + minutes + " minutes", watched(text, 3, 1), noticed ? 0 : 50, noticed ? 0 : 1, 0, 0, 0,
                    notice == 1 ? 0 : 1, noticed ? 1 : 0, 0);
            }
        }
        Rows.day("3 without: 2", watched(ROW + "thief 1 2 0 0 1 1 0;", 3, 1), 50, 1, 0, 0, 0, 1, 0, 0);
        Rows.day("3 without: 3", watched(ROW + "thief 1 2 0 0 1 1 1 0;", 3, 1), 0, 0, 0, 0, 0, 1, 1, 0);
        Rows.day("from the first minute on: 1", watched(ROW + "notice 2;thief 1 0 0 0;", 3, 0), 0, 0, 0, 0, 0, 0, 0, 0);
        Rows.day("from the first minute on: 2", watched(ROW + "notice 2;thief 1 0 0 0 0;", 3, 0), 0, 0, 0, 0, 0, 0, 1, 0);
        Rows.day("in the last minute", watched(ROW + "notice 2;thief 59 0 0 0 0;", 3, 0), 0, 0, 0, 0, 0, 0, 1, 0);
        Rows.day("too late", watched(ROW + "notice 2;thief 60 0 0 0 0;", 3, 0), 0, 0, 0, 0, 0, 0, 0, 0);
    }

    private static void notOneAfterTheOther() {
        Check.sentence("Each thief in his AISLE is BESIDE him for one minute more, others for none");
        Rows.day("two, away, two", watched(ROW + "thief 1 0 0 0 1 1 2 1 1 0;", 3, 1), 0, 0, 0, 0, 0, 0, 0, 0);
        Rows.day("two, away, three", watched(ROW + "thief 1 0 0 0 1 1 2 1 1 1 0;", 3, 1), 0, 0, 0, 0, 0, 0, 1, 0);
        ShopEyes twice = watched(ROW + "thief 1 2 0 0 1;", 2, 0);
        Rows.day("with him all DAY", twice, 0, 0, 0, 0, 0, 1, 1, 0);
        twice.stops(0);
        Rows.day("with him all DAY, anew", twice, 0, 0, 0, 0, 0, 1, 1, 0);
        Rows.day("in turns", watched(ROW + "thief 1 0 0 0 1 2 1 2 1 2 1 2 1 0;", 3, 1), 0, 0, 0, 0, 0, 0, 0, 0);
        Rows.day("with him on his way", watched(ROW + "thief 1 0 0 0 1 2;", 2, 0), 0, 0, 0, 0, 0, 0, 1, 0);
        Rows.day("each for himself", watched(ROW + "thief 1 0 0 0 1 1;thief 2 0 0 0 1 1 0;thief 1 0 0 0 1 1 1 0;", 3, 1), 0, 0, 0, 0, 0, 0, 5, 0);
        Rows.day("not where nobody watches", Check.shop(ROW + "thief 1 0 0 0 0 0 0 0;"), 0, 0, 0, 0, 0, 0, 0, 0);
        Rows.day("not through a MIRROR", watched(ROW + "mirror 2 1;thief 1 0 0 0 1 1 1 1 1 0;", 3, 2), 0, 0, 0, 0, 0, 0, 0, 0);
    }

    private static void open() {
        Check.sentence("(OPEN: for one)");
        ShopEyes x = watched(ROW + "notice 9;thief 1 3 0 0 0 1 0;", 3, 1);
        Rows.day("hidden", x, 50, 1, 0, 0, 0, 1, 0, 0);
        x.open(true);
        Rows.day("open: he doesn't even take", x, 0, 0, 0, 0, 0, 0, 1, 0);
        x.watch(3, 2);
        Rows.day("open elsewhere", x, 50, 1, 0, 0, 0, 0, 0, 0);
        x.watch(3, 0);
        Rows.day("at the door, ahead of it", x, 0, 0, 0, 0, 0, 0, 1, 0);
        ShopEyes back = watched(ROW + "thief 1 2 0 0 1 0;", 3, 0);
        back.open(true);
        Rows.day("at the door", back, 0, 0, 0, 0, 0, 0, 1, 0);
    }

    private static void thievesAlone() {
        Check.sentence("Each thief");
        for (int sort = 0; sort < 4; sort++) {
            ShopEyes x = watched(ROW + "notice 1;" + SORTS[sort] + " 1 2 0 0 1 1 1;", 3, 1);
            Check.due(SORTS[sort], sort == 1 ? 1 : 0, x.day(6));
            Check.due(SORTS[sort] + " has it", sort == 1 ? -1 : 1, x.has(0, 60));
            x.open(true);
            Check.due(SORTS[sort] + ", open", sort == 1 ? 1 : 0, x.day(6));
        }
    }

    private static void noticedInTime() {
        Check.sentence("he puts back what he has, and takes nothing any more");
        String one = "aisle 0 0;aisle 9 1;aisle 7 9;way 0 1;way 1 2;";
        Rows.has("noticed in the minute of taking", watched(one + "thief 1 4 0 0 1 1 1 1;", 3, 1), 0, -1, -1, -1, -1, -1);
        Rows.has("noticed a minute behind it", watched(one + "thief 1 3 0 0 1 1 1 1;", 3, 1), 0, -1, -1, 1, -1, -1);
        Rows.has("takes nothing elsewhere", watched(one + "thief 1 5 0 0 1 1 1 2 2;", 3, 1), 0, -1, -1, -1, -1, -1, -1);
        Rows.has("takes elsewhere who hasn't", watched(one + "thief 1 4 0 0 1 1 2 2;", 3, 1), 0, -1, -1, -1, 2, 2);
        ShopEyes x = watched(one + "buyer 3 2 0 0 1;thief 1 2 0 0 1 1 1 1;buyer 2 2 0 0 1;", 3, 1);
        Rows.has("what is put back is there in that minute", x, 0, -1, -1, -1, 1, 1);
        Rows.has("not ahead of it", x, 2, -1, -1, -1, -1, -1);
        Check.due("seen taking he was", 3, x.day(5));
        Check.due("noticed he has", 2, x.day(6));
        ShopEyes left = watched(one + "thief 1 2 0 0 1 1 1 0;", 3, 1);
        left.days(9);
        Check.due("nothing is lost", 1, left.aisle(1, 1));
    }

    private static void takesOnce() {
        Check.sentence("who has come to the TAKES-th AISLE of his ROUTE in this minute takes a thing");
        for (int takes = 0; takes <= 12; takes++) {
            ShopEyes x = Check.shop("aisle 1 9;aisle 1 9;way 0 1;lapse 2 " + takes + " 0" + " 0 1".repeat(6) + ";");
            for (int minute = 1; minute <= 20; minute++) {
                boolean has = takes > 0 && minute >= takes + 1;
                Check.due("TAKES " + takes + ", MINUTE " + minute, has ? (takes + 1) % 2 : -1, x.has(0, minute));
            }
        }
        String one = "aisle 0 0;aisle 9 1;way 0 1;mirror 1 0;";
        ShopEyes stays = watched(one + "lapse 1 2 0 0 1 0;buyer 2 2 0 0 1 1 1;", 3, 1);
        Rows.has("in this minute alone", stays, 1, -1, -1, -1, -1, -1, -1, -1);
        Check.due("there it was again", 1, stays.day(2));
    }

    private static void takesInTheLastMinute() {
        Check.sentence("A DAY has MINUTES 1 to 60");
        String twelve = " 0" + " 1".repeat(11) + ";";
        ShopEyes x = Check.shop("aisle 1 9;aisle 1 9;way 0 1;buyer 60 1 0 0;buyer 60 2 0 0 1;buyer 49 12 0" + twelve + "buyer 50 12 0" + twelve
            + "lapse 1 1 0 0;lapse 59 1 0 0;lapse 60 1 0 0;");
        Check.due("takes in MINUTE 60", 0, x.has(0, 60));
        Check.due("would in MINUTE 61", -1, x.has(1, 60));
        Check.due("the twelfth in MINUTE 60", 1, x.has(2, 60));
        Check.due("not ahead of it", -1, x.has(2, 59));
        Check.due("the twelfth in MINUTE 61", -1, x.has(3, 60));
        Check.due("takes in MINUTE 1", 0, x.has(4, 1));
        Rows.day("out in MINUTE 2 and 60, not in 61", x, 2, 2, 0, 0, 2);
    }

    private static void takesIfThereIsStock() {
        Check.sentence("PEOPLE, in order: .. takes a thing, if there is STOCK");
        String all = "buyer 1 2 0 0 1;".repeat(8);
        for (int stock = 0; stock < 10; stock++) {
            ShopEyes x = Check.shop("aisle 0 0;aisle 9 " + stock + ";way 0 1;" + all);
            for (int p = 0; p < 8; p++) {
                Check.due("STOCK " + stock + " for " + p, p < stock ? 1 : -1, x.has(p, 2));
            }
            Check.due("paid", Math.min(stock, 8), x.day(4));
            x.days(1);
            Check.due("left", Math.max(0, stock - 8), x.aisle(1, 1));
        }
        Check.sentence("SEEN TAKING, if the DETECTIVE SEES that AISLE");
        ShopEyes none = watched("aisle 0 0;aisle 9 1;way 0 1;buyer 1 2 0 0 1;buyer 1 2 0 0 1;", 3, 1);
        Check.due("who gets nothing isn't seen taking", 1, none.day(5));
        Check.due("arrives with him in that minute", 1, watched(ROW + "lapse 1 2 0 0 1;", 2, 0).day(5));
        Check.due("comes a minute later", 0, watched(ROW + "lapse 1 2 0 0 1;staff 2 0 0 0 1;", 2, 1).day(5));
    }

    private static void noMoreInSight() {
        Check.sentence("Who is in SIGHT is that no more, if the DETECTIVE doesn't SEE the AISLE where he is");
        String trip = "lapse 1 2 0 0 1 2 2 1 0;";
        Rows.day("at once", watched(ROW + "mirror 1 0;" + trip, 3, 1), 50, 1, 0, 0, 0, 1, 0, 0);
        Rows.day("at the door alone", watched(ROW + "mirror 1 2;" + trip, 3, 1), 50, 1, 0, 0, 0, 1, 0, 0);
        Rows.day("never", watched(ROW + "mirror 1 2;mirror 1 0;" + trip, 3, 1), 0, 0, 1, 0, 0, 1, 0, 1);
        Rows.day("one of two", watched(ROW + "mirror 1 0;" + trip + "lapse 1 2 0 0 1 1 0;", 3, 1), 50, 1, 1, 0, 0, 3, 0, 2);
        Rows.day("follows him all the way", watched(ROW + trip, 2, 0), 0, 0, 1, 0, 0, 1, 0, 1);
    }

    private static void endOfTheDay() {
        Check.sentence("BUYERS who are in at the end of MINUTE 60 pay then, others put back what they have");
        for (int sort = 0; sort < 4; sort++) {
            for (int stops = 0; stops <= 2; stops++) {
                ShopEyes x = watched(ROW + "stops " + stops + ";" + SORTS[sort] + " 1 2 0 0 1 2;" + SORTS[sort] + " 58 2 0 0 1 0;", 3, 1);
                int paid = sort == BUYER ? 2 : 0;
                Rows.day(SORTS[sort] + " is in at the end", x, 0, 0, 0, 0, paid, 3, 0, 0);
                Check.due("has it at the end of MINUTE 60", 1, x.has(0, 60));
                Check.due("has it at the door", 1, x.has(1, 60));
                x.days(1);
                Check.due("left", 9 - paid, x.aisle(1, 1));
            }
        }
        Rows.day("who has nothing pays nothing", Check.shop(ROW + "buyer 1 0 0 0 1;"), 0, 0, 0, 0, 0, 0, 0, 0);
    }

    private static void whatADayCosts() {
        Check.sentence("COST of a DAY: WORTH of all that is LOST, and FALSE for each who is stopped so");
        ShopEyes most = Check.shop("aisle 999 99;" + "lapse 1 1 0 0;".repeat(8));
        Rows.day("eight of the most", most, 7992, 8, 0, 0, 0, 0, 0, 0);
        Check.due("on thirty DAYS till there is no more", 99 * 999, most.days(30));
        String rightly = "aisle 1 99;aisle 1 99;way 0 1;false 999;stops 2;mirror 1 0;" + "buyer 1 1 0 0 0;".repeat(8);
        Rows.day("eight stopped rightly go on", watched(rightly, 3, 1), 0, 0, 0, 0, 8, 255, 0, 0);
        String wrongly = "aisle 1 99;aisle 1 99;way 0 1;false 999;stops 2;" + "buyer 1 2 0 0 1 0;".repeat(8);
        Rows.day("eight stopped wrongly", watched(wrongly, 3, 1), 7992, 0, 0, 8, 8, 255, 0, 0);
        Check.sentence("STOCK is one less for each thing that was paid, or LOST");
        ShopEyes x = Check.shop(ROW + "buyer 1 2 0 0 1 0;lapse 1 2 0 0 1 0;lapse 1 3 0 0 1 2;buyer 1 1 0 0;");
        x.days(1);
        int[] left = {8, 7, 9};
        for (int a = 0; a < 3; a++) {
            Check.due("left of " + a, left[a], x.aisle(a, 1));
        }
        Rows.day("no one comes", Check.shop(ROW), 0, 0, 0, 0, 0, 0, 0, 0);
        Rows.day("no shop", new ShopEyes(), 0, 0, 0, 0, 0, 0, 0, 0);
    }

    private static void asked() {
        ShopEyes x = watched(ROW + "lapse 1 2 0 0 1;", 3, 1);
        ShopEyes none = new ShopEyes();
        Check.sentence("NoSuchElementException: another what");
        Check.due("the last", 0, x.day(7));
        Check.due("behind it", Check.NO_ELEMENT, () -> x.day(8));
        Check.due("ahead of the first", Check.NO_ELEMENT, () -> x.day(-1));
        Check.due("in no shop", Check.NO_ELEMENT, () -> none.day(8));
        Check.sentence("a MINUTE (1 to 60); NoSuchElementException: also no such MINUTE (as everywhere)");
        Check.due("the first", 0, x.where(0, 1));
        Check.due("the last", 1, x.where(0, 60));
        Check.due("the first", 1, x.eyes(1));
        Check.due("the last", 1, x.eyes(60));
        Check.due("the first", -1, x.has(0, 1));
        Check.due("the last", 1, x.has(0, 60));
        Check.due("in no shop", -1, none.eyes(60));
        for (int minute : new int[] {0, 61, -1, 62, 64, 1 << 29, 1 << 30, Integer.MAX_VALUE, Integer.MIN_VALUE}) {
            Check.due("where in " + minute, Check.NO_ELEMENT, () -> x.where(0, minute));
            Check.due("eyes in " + minute, Check.NO_ELEMENT, () -> x.eyes(minute));
            Check.due("has in " + minute, Check.NO_ELEMENT, () -> x.has(0, minute));
            Check.due("in no shop in " + minute, Check.NO_ELEMENT, () -> none.eyes(minute));
        }
        Check.sentence("NoSuchElementException: no such one (as everywhere)");
        for (int p : new int[] {-1, 1, 7, 8, 1 << 28, 1 << 29, Integer.MAX_VALUE, Integer.MIN_VALUE}) {
            Check.due("where " + p, Check.NO_ELEMENT, () -> x.where(p, 1));
            Check.due("has " + p, Check.NO_ELEMENT, () -> x.has(p, 1));
            Check.due("both", Check.NO_ELEMENT, () -> x.where(p, 0));
        }
        Check.due("nobody", Check.NO_ELEMENT, () -> none.where(0, 1));
        Check.due("nobody", Check.NO_ELEMENT, () -> none.has(0, 1));
    }
}
