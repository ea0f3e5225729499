/** Promises 17 to 20: days that are told minute by minute here, each for one step of the order in a DAY. */
public final class DayTest {
    private static final int NEVER = 99;
    private static final String ROW = "aisle 0 0;aisle 50 3;aisle 20 5;aisle 100 1;way 0 1;way 1 2;way 2 3;";

    public static void main(String[] args) {
        comingAndGoing();
        leavingWithAThing();
        whatIsCaughtIsPutBack();
        following();
        byRule();
        values();
        noticing();
        taking();
        sight();
        theEnd();
        wrongInputs();
        Check.end("DayTest");
    }

    private static void comingAndGoing() {
        ShopEyes x = Check.shop(ROW + "buyer 2 2 0 0 1 1 0;buyer 1 0 0 0;buyer 60 0 0 0;lapse 3 2 0 0 1;");
        Rows.where("back at the door", x, 0, -1, 0, 1, 1, 0, -1, -1);
        Rows.where("one step", x, 1, 0, -1, -1);
        Rows.where("last minute", x, 2, -1, -1);
        Check.due("last minute", 0, x.where(2, 60));
        Rows.where("stays", x, 3, -1, -1, 0, 1, 1, 1, 1);
        Check.due("stays to the end", 1, x.where(3, 60));
        Rows.has("till he leaves", x, 0, -1, -1, 1, 1, 1, -1);
        Check.due("put back at the end alone", 1, x.has(3, 60));
        Rows.day("nobody watches", x, 0, 0, 0, 0, 1, 0, 0, 0);
        Rows.eyes("nobody watches", x, -1, -1);
    }

    private static void leavingWithAThing() {
        String trip = " 1 2 0 0 1 0;";
        Rows.day("buyer pays", Check.shop(ROW + "buyer" + trip), 0, 0, 0, 0, 1);
        Rows.day("thief", Check.shop(ROW + "thief" + trip), 50, 1, 0, 0, 0);
        Rows.day("lapse", Check.shop(ROW + "lapse" + trip), 50, 1, 0, 0, 0);
        Rows.day("staff", Check.shop(ROW + "staff" + trip), 50, 1, 0, 0, 0);
        String keeps = ROW + "mirror 1 0;lapse" + trip;
        ShopEyes x = Check.shop(keeps);
        x.watch(3, 1);
        Rows.day("kept in sight to the door", x, 0, 0, 1, 0, 0, 1, 0, 1);
        x.stops(0);
        Rows.day("no stops", x, 50, 1, 0, 0, 0, 1, 0, 0);
        x.stops(2);
        Rows.day("by sight", x, 0, 0, 1, 0, 0, 1, 0, 1);
        ShopEyes y = Check.shop(ROW + "lapse" + trip + "false 7;buyer 1 3 0 0 1 1 0;");
        y.watch(3, 1);
        Rows.day("seen, not kept in sight", y, 50, 1, 0, 0, 1, 3, 0, 0);
        y.stops(2);
        Rows.day("stopped rightly and wrongly", y, 7, 0, 1, 1, 1, 3, 0, 1);
        y.mirror(1, 0);
        Rows.day("kept in sight he isn't stopped", y, 0, 0, 1, 0, 1, 3, 0, 1);
        y.watch(3, 0);
        Rows.day("not seen taking", y, 50, 1, 0, 0, 1, 0, 0, 0);
    }

    private static void whatIsCaughtIsPutBack() {
        ShopEyes x = Check.shop("aisle 0 0;aisle 9 1;way 0 1;mirror 1 0;lapse 1 2 0 0 1 0;buyer 3 2 0 0 1 0;");
        x.watch(3, 1);
        Rows.day("there again in the same minute", x, 0, 0, 1, 0, 1, 3, 0, 1);
        x.watch(0, 0);
        Rows.day("gone", x, 9, 1, 0, 0, 0, 0, 0, 0);
        Check.due("a day", 9, x.days(1));
        Check.due("nothing is left", 0, x.aisle(1, 1));
    }

    private static void following() {
        ShopEyes x = Check.shop(ROW + "staff 2 0 0 0 1 2 3;");
        x.watch(2, 0);
        Rows.eyes("staff too, if told", x, 0, 0, 1, 2, 3, 3, 3);
        ShopEyes y = Check.shop(ROW + "buyer 3 0 0 0 1 2 2 2 1 0;");
        y.watch(2, 0);
        Rows.eyes("comes and goes", y, 0, 0, 0, 1, 2, 2, 2, 1, 0, 0);
        String square = "aisle 0 0;aisle 1 1;aisle 2 2;aisle 3 3;way 3 2;way 3 1;way 0 2;way 0 1;";
        ShopEyes z = Check.shop(square + "buyer 1 0 0 0 0 1 3;");
        z.watch(2, 0);
        Rows.eyes("beside", z, 0, 0, 1, 3, 3);
        z.watch(3, 3);
        Rows.eyes("stands", z, 3, 3, 3, 3);
        ShopEyes fork = Check.shop(square + "buyer 1 0 1 0 2 3 3;rule here=3 and coat=1;");
        Rows.eyes("of like ones the least", fork, 0, 0, 1, 1, 1);
        ShopEyes none = Check.shop("rule 1;");
        Rows.eyes("no aisles", none, -1);
    }

    private static void byRule() {
        String people = "staff 1 0 9 0 1 2;buyer 1 0 2 0 1;thief 1 0 2 0 0 1 2;lapse 4 0 3 0 0 0 0;notice 9;";
        ShopEyes x = Check.shop(ROW + people + "rule coat;rule coat-2;rule 0-coat;rule coat*(here=2);");
        Rows.eyes("most, of like ones the least, not staff", x, 0, 1, 1, 0, 0, 0, 0, 1);
        x.watch(1, 1);
        Rows.eyes("above 0 alone", x, 0, 0, 0, 0, 0);
        x.watch(1, 2);
        Rows.eyes("below 0", x, 0, 0, 0, 0);
        x.watch(1, 3);
        Rows.eyes("for a minute", x, 0, 1, 1, 1, 0, 0);
    }

    /** One who is asked about stands in AISLE 1 of a row of 0 1; the detective comes to him, if the rule holds. */
    private static void values() {
        String start = "aisle 3 0;aisle 8 5;aisle 1 1;way 0 1;way 1 2;mirror 0 1;";
        String people = "lapse 2 2 7 0 1 1;buyer 3 0 0 0 1;staff 4 0 0 0 1;notice 9;";
        String[] firstHeld = {"coat=7 and minute=5", "here=4 and coat=7", "took*coat and minute<9", "far=1 and coat*(minute=6)",
            "worth=8 and minute=3 and coat", "crowd=2 and coat=7", "coat and minute=60"};
        int[] due = {5, 5, 4, 6, 3, 5, 60};
        for (int i = 0; i < due.length; i++) {
            ShopEyes x = Check.shop(start + people + "rule " + firstHeld[i] + ";");
            int moved = NEVER;
            for (int minute = 60; minute > 0; minute--) {
                moved = x.eyes(minute) == 1 ? minute : moved;
            }
            Check.due("first held: " + firstHeld[i], due[i], moved);
        }
        String[] holds = {"1+2*3=7", "7-2-1=4", "100/10/5=2", "7/2=3", "(0-7)/2=0-3", "7/0=0", "2*(1+2)=6", "0 or 1 and 0=0",
            "not 1<0", "not 0 and 1", "(not not 5)=1", "1 or 0 and 0", "(0 and 0) or 3", "(5 or 0)=1", "(5=5)=1", "(1<2)=1", "(not 0)=1", "(5 and 7)=1",
            "9999*9999*9999<0", "0-2<1", "(1<2)+(2<2)=1", "not (0-1)=0", "5", "3-2"};
        String[] fails = {"1+2*3=9", "not 1", "0", "1<1", "2=3", "1 and 0", "0 or 0", "not not 0", "0-1", "1/2", "not 5=5", "not not 5=1"};
        for (String expr : holds) {
            Check.due(expr, 1, Check.shop(start + people + "rule (" + expr + ")*coat;").eyes(3));
        }
        for (String expr : fails) {
            Check.due(expr, 0, Check.shop(start + people + "rule (" + expr + ")*coat;").eyes(3));
        }
    }

    private static void noticing() {
        String trip = "thief 1 2 0 0 1 1 1 1 0;";
        ShopEyes x = Check.shop(ROW + trip);
        x.watch(3, 1);
        Rows.has("three minutes", x, 0, -1, 1, 1, -1, -1);
        Rows.day("three minutes", x, 0, 0, 0, 0, 0, 1, 1, 0);
        x.open(true);
        Rows.has("open: before he takes", x, 0, -1, -1, -1);
        Rows.day("open", x, 0, 0, 0, 0, 0, 0, 1, 0);
        Rows.day("notice 4", watched(ROW + trip + "notice 4;", 1), 0, 0, 0, 0, 0, 1, 1, 0);
        Rows.day("notice 5", watched(ROW + trip + "notice 5;", 1), 50, 1, 0, 0, 0, 1, 0, 0);
        Rows.day("not one after the other", watched(ROW + "thief 1 2 0 0 1 1 2 1 1 2 1 1 0;", 1), 50, 1, 0, 0, 0, 1, 0, 0);
        Rows.day("takes nothing any more", watched(ROW + "thief 1 6 0 0 1 1 1 2 2 1 0;", 1), 0, 0, 0, 0, 0, 0, 1, 0);
        Rows.day("lapses notice nothing", watched(ROW + "lapse 1 2 0 0 1 1 1 1 0;", 1), 50, 1, 0, 0, 0, 1, 0, 0);
        ShopEyes anew = Check.shop(ROW + "thief 1 0 0 0 1;");
        anew.watch(2, 0);
        Rows.day("beside all day", anew, 0, 0, 0, 0, 0, 0, 1, 0);
        anew.watch(3, 0);
        Rows.day("on another day he is beside anew", anew, 0, 0, 0, 0, 0, 0, 0, 0);
        Rows.day("not through mirrors", watched(ROW + "mirror 2 1;" + trip, 2), 50, 1, 0, 0, 0, 1, 0, 0);
        ShopEyes back = Check.shop("aisle 0 0;aisle 9 1;way 0 1;thief 1 2 0 0 1 1 1 0;buyer 3 2 0 0 1;notice 3;buyer 2 2 0 0 1 1;");
        back.watch(3, 1);
        Rows.has("what is put back can be taken at once", back, 1, -1, -1, -1, 1, 1);
        Rows.has("it wasn't there a minute before", back, 2, -1, -1, -1, -1, -1);
    }

    private static ShopEyes watched(String text, int aisle) {
        ShopEyes x = Check.shop(text);
        x.watch(3, aisle);
        return x;
    }

    private static void taking() {
        ShopEyes x = Check.shop("aisle 5 0;aisle 9 1;way 0 1;buyer 1 3 0 0 1 1 0;lapse 1 3 0 0 1 1 0;buyer 1 0 0 0 1 0;lapse 1 1 0 0;");
        Rows.day("in order; no stock", x, 0, 0, 0, 0, 1, 0, 0, 0);
        Rows.has("the first has it", x, 0, -1, -1, 1, 1, -1);
        Rows.has("none is left", x, 1, -1, -1, -1, -1);
        Rows.has("takes nothing", x, 2, -1, -1, -1);
        Rows.has("nothing there", x, 3, -1, -1);
        x.stock(1, 2);
        Rows.day("two", x, 9, 1, 0, 0, 1);
        ShopEyes stays = Check.shop("aisle 0 0;aisle 9 0;way 0 1;lapse 1 2 0 0 1;lapse 1 0 0 0;");
        stays.stock(1, 0);
        Rows.has("comes once alone", stays, 0, -1, -1, -1);
        ShopEyes last = Check.shop("aisle 4 1;lapse 5 1 0 0;");
        Rows.day("at the door", last, 4, 1);
        Rows.has("at the door", last, 0, -1, -1, -1, -1, 0, -1);
    }

    private static void sight() {
        String trip = "lapse 1 2 0 0 1 2 1 0;";
        Rows.day("lost on the way", watched(ROW + trip, 1), 50, 1, 0, 0, 0, 1, 0, 0);
        Rows.day("seen again is too late", watched(ROW + "mirror 1 0;" + trip, 1), 50, 1, 0, 0, 0, 1, 0, 0);
        Rows.day("mirrors on all the way", watched(ROW + "mirror 1 0;mirror 1 2;" + trip, 1), 0, 0, 1, 0, 0, 1, 0, 1);
        Rows.day("from afar", watched(ROW + "mirror 3 0;mirror 3 1;mirror 3 2;" + trip, 3), 0, 0, 1, 0, 0, 1, 0, 1);
        Rows.day("a mirror shows one way alone", watched(ROW + "mirror 1 3;" + trip, 3), 50, 1, 0, 0, 0, 0, 0, 0);
        ShopEyes x = Check.shop(ROW + trip);
        x.watch(2, 0);
        Rows.day("followed", x, 0, 0, 1, 0, 0, 1, 0, 1);
    }

    private static void theEnd() {
        ShopEyes x = Check.shop("aisle 6 1;aisle 9 9;way 0 1;buyer 59 2 0 0 1;lapse 59 2 0 0 1 0;thief 60 1 0 0;buyer 58 2 0 0 1 0;");
        Rows.day("paid at the end, put back, out in the last minute", x, 0, 0, 0, 0, 2);
        Check.due("has it at the end", 1, x.has(0, 60));
        Check.due("out in time", 0, x.where(3, 60));
        x.days(1);
        Check.due("two paid", 7, x.aisle(1, 1));
        Check.due("put back", 1, x.aisle(0, 1));
        ShopEyes y = Check.shop("aisle 6 1;lapse 59 1 0 0;");
        Rows.day("out in minute 60", y, 6, 1);
        Check.due("out", -1, y.where(0, 60));
        ShopEyes z = Check.shop("aisle 6 1;stops 2;aisle 7 1;way 0 1;buyer 58 2 0 0 1 1;");
        z.watch(3, 1);
        Rows.day("who is in is not stopped", z, 0, 0, 0, 0, 1, 1);
    }

    private static void wrongInputs() {
        ShopEyes x = Check.shop(ROW + "buyer 1 0 0 0;");
        for (int what : new int[] {-1, 8, Integer.MAX_VALUE, Integer.MIN_VALUE}) {
            Check.due("day " + what, Check.NO_ELEMENT, () -> x.day(what));
        }
        for (int minute : new int[] {-1, 0, 61, Integer.MAX_VALUE, Integer.MIN_VALUE}) {
            Check.due("where 0 " + minute, Check.NO_ELEMENT, () -> x.where(0, minute));
            Check.due("has 0 " + minute, Check.NO_ELEMENT, () -> x.has(0, minute));
            Check.due("eyes " + minute, Check.NO_ELEMENT, () -> x.eyes(minute));
        }
        for (int p : new int[] {-1, 1, Integer.MAX_VALUE, Integer.MIN_VALUE}) {
            Check.due("where " + p, Check.NO_ELEMENT, () -> x.where(p, 1));
            Check.due("has " + p, Check.NO_ELEMENT, () -> x.has(p, 1));
        }
        Check.due("nothing was counted", 0, x.count(17));
    }
}
