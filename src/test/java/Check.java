import java.util.NoSuchElementException;

/** What the tests share: shops from texts, answers that are due, and the count of wrong ones. */
final class Check {
    static final long NO_ELEMENT = Long.MIN_VALUE;
    static final long ILLEGAL = Long.MIN_VALUE + 1;

    interface Call {
        long answer();
    }

    private static int asked = 0;
    private static int wrong = 0;
    private static String sentence = "";
    private static int askedBefore = -1;

    private Check() {
    }

    /** The words of the document by which the answers from here on are due. */
    static void sentence(String words) {
        endSentence();
        sentence = words;
        askedBefore = asked;
    }

    private static void endSentence() {
        if (askedBefore == asked) {
            wrong++;
            System.out.println("nothing was asked of \"" + sentence + "\"");
        }
    }

    static void due(String what, long want, long got) {
        asked++;
        if (want != got) {
            wrong++;
            String by = sentence.isEmpty() ? "" : " (\"" + sentence + "\")";
            System.out.println(what + " answered " + told(got) + ", due is " + told(want) + by);
        }
    }

    static void due(String what, boolean want, boolean got) {
        due(what, want ? 1 : 0, got ? 1 : 0);
    }

    /** The answer of a call, or what stands for the exception that it throws. */
    static long ask(Call call) {
        try {
            return call.answer();
        } catch (NoSuchElementException e) {
            return e.getClass() == NoSuchElementException.class ? NO_ELEMENT : Long.MAX_VALUE;
        } catch (IllegalArgumentException e) {
            return e.getClass() == IllegalArgumentException.class ? ILLEGAL : Long.MAX_VALUE;
        }
    }

    static void due(String what, long want, Call call) {
        due(what, want, ask(call));
    }

    private static String told(long answer) {
        return answer == NO_ELEMENT ? "NoSuchElementException"
            : answer == ILLEGAL ? "IllegalArgumentException" : String.valueOf(answer);
    }

    /** Feeds a text, filled up with blanks to whole calls. */
    static void feed(ShopEyes x, String text) {
        StringBuilder row = new StringBuilder(text);
        while (row.length() % 20 != 0) {
            row.append(' ');
        }
        for (int i = 0; i < row.length(); i += 20) {
            x.feed(number(row, i), number(row, i + 4), number(row, i + 8), number(row, i + 12), number(row, i + 16));
        }
    }

    private static int number(CharSequence row, int i) {
        return row.charAt(i) << 24 | row.charAt(i + 1) << 16 | row.charAt(i + 2) << 8 | row.charAt(i + 3);
    }

    /** The FAULT of a text and its place, 0 and NONE if there is none. */
    static void fault(String text, int fault, int place) {
        ShopEyes x = new ShopEyes();
        feed(x, text);
        due("fault of " + text, fault, x.shop(text.length()));
        due("place in " + text, place, x.fault());
        due("told of " + text, fault == 0 ? 0 : 1, x.count(16));
    }

    static ShopEyes shop(String text) {
        ShopEyes x = new ShopEyes();
        feed(x, text);
        due("shop of " + text, 0, () -> x.shop(text.length()));
        return x;
    }

    static void end(String test) {
        endSentence();
        System.out.println(test + ": " + asked + " answers, " + wrong + " wrong");
        if (wrong != 0 || asked == 0) {
            System.exit(1);
        }
    }
}
