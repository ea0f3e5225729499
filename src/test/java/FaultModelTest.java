import java.util.ArrayList;
import java.util.HashMap;
import java.util.List;
import java.util.Map;
import java.util.Random;
import java.util.TreeSet;

/** Texts with a token or two amiss, by fixed seeds; the FAULT and its place against a second reader. */
public final class FaultModelTest {
    private static final int TEXTS = 60000;

    /** The FAULT that ends a reading, thrown from wherever it is found. */
    private static final class Fault extends RuntimeException {
        private static final long serialVersionUID = 1L;
        final int kind;
        final int place;

        Fault(int kind, int place) {
            super(null, null, false, false);
            this.kind = kind;
            this.place = place;
        }
    }

    private record Token(String text, int place) {
        boolean number() {
            return !text.isEmpty() && Character.isDigit(text.charAt(0));
        }

        boolean word() {
            return !text.isEmpty() && text.charAt(0) >= 'a' && text.charAt(0) <= 'z';
        }

        boolean is(String other) {
            return text.equals(other);
        }
    }

    /** Reads a text by its tokens; of all that is wrong with a token the least is thrown. */
    private static final class Second {
        private static final List<String> VALUES = List.of("coat", "here", "took", "far", "worth", "crowd", "minute");
        private final List<Token> tokens = new ArrayList<>();
        private final Map<String, Integer> many = new HashMap<>();
        private final TreeSet<String> joined = new TreeSet<>();
        private final TreeSet<String> mirrored = new TreeSet<>();
        private int i = 0;

        Second(String text) {
            int at = 0;
            while (at < text.length()) {
                String kind = " \n".indexOf(text.charAt(at)) >= 0 ? " \n"
                    : digits(text.charAt(at)) ? "0123456789"
                    : small(text.charAt(at)) ? "abcdefghijklmnopqrstuvwxyz" : "";
                int from = at++;
                while (at < text.length() && kind.indexOf(text.charAt(at)) >= 0) {
                    at++;
                }
                if (!kind.equals(" \n")) {
                    tokens.add(new Token(text.substring(from, at), from));
                }
            }
            tokens.add(new Token("", text.length()));
        }

        private static boolean digits(char c) {
            return "0123456789".indexOf(c) >= 0;
        }

        private static boolean small(char c) {
            return c >= 97 && c <= 122;
        }

        private Token here() {
            return tokens.get(i);
        }

        private void ensure(boolean right, int fault) {
            if (!right) {
                throw new Fault(fault, here().place());
            }
        }

        private int total(String what, int add) {
            return many.merge(what, add, Integer::sum);
        }

        void read() {
            while (!here().is("")) {
                Token first = here();
                switch (first.text()) {
                    case "aisle" -> {
                        first("aisle", 10);
                        number(0, 999);
                        number(0, 99);
                        total("aisles", 1);
                    }
                    case "way" -> {
                        first("way", 16);
                        couple(true);
                    }
                    case "mirror" -> {
                        first("mirror", 6);
                        couple(false);
                    }
                    case "buyer", "thief", "lapse", "staff" -> person();
                    case "notice" -> setting("notice", 1, 9);
                    case "false" -> setting("false", 0, 999);
                    case "stops" -> setting("stops", 0, 2);
                    case "rule" -> {
                        first("rule", 4);
                        expr(0);
                    }
                    default -> ensure(false, 1);
                }
                sign(";");
            }
        }

        private void first(String what, int most) {
            ensure(total(what, 1) <= most, 2);
            i++;
        }

        private void setting(String what, int least, int most) {
            ensure(total(what, 1) <= 1, 5);
            i++;
            number(least, most);
        }

        private void sign(String sign) {
            ensure(here().is(sign), 1);
            i++;
        }

        private int number(int least, int most) {
            ensure(here().number(), 1);
            ensure(here().text().length() < 5, 2);
            int n = Integer.parseInt(here().text());
            ensure(n >= least && n <= most, 2);
            i++;
            return n;
        }

        private int aisle() {
            ensure(here().number(), 1);
            ensure(here().text().length() < 5, 2);
            int n = Integer.parseInt(here().text());
            ensure(n < total("aisles", 0), 3);
            return n;
        }

        private void couple(boolean way) {
            int a = aisle();
            i++;
            int b = aisle();
            ensure(a != b, 4);
            if (way) {
                ensure(joined.add(a + " " + b), 4);
                joined.add(b + " " + a);
            } else {
                ensure(mirrored.add(a + " " + b), 4);
            }
            i++;
        }

        private void person() {
            first("people", 8);
            number(1, 60);
            int takes = number(0, 12);
            number(0, 9);
            List<Integer> route = new ArrayList<>();
            do {
                ensure(here().number(), 1);
                ensure(route.size() < 12, 2);
                int a = aisle();
                int before = route.isEmpty() ? 0 : route.get(route.size() - 1);
                ensure(a == before || !route.isEmpty() && joined.contains(before + " " + a), 6);
                route.add(a);
                i++;
            } while (here().number());
            ensure(takes <= route.size(), 6);
        }

        private void expr(int within) {
            boolean begins = here().number() || here().word() || here().is("(");
            ensure(within < 6 || !begins, 2);
            ensure(within < 6, 1);
            do {
                do {
                    test(within);
                } while (passes("and"));
            } while (passes("or"));
        }

        private boolean passes(String... some) {
            for (String one : some) {
                if (here().is(one)) {
                    i++;
                    return true;
                }
            }
            return false;
        }

        private void test(int within) {
            int nots = 0;
            while (here().is("not")) {
                nots++;
                ensure(nots < 7, 2);
                i++;
            }
            sum(within);
            if (passes("<", "=")) {
                sum(within);
            }
        }

        private void sum(int within) {
            do {
                part(within);
            } while (passes("+", "-", "*", "/"));
        }

        private void part(int within) {
            if (passes("(")) {
                expr(within + 1);
                sign(")");
            } else if (here().word()) {
                ensure(VALUES.contains(here().text()), 3);
                i++;
            } else {
                number(0, 9999);
            }
        }
    }

    private static final String[] SOME = {"aisle", "way", "mirror", "buyer", "thief", "lapse", "staff", "notice", "false",
        "stops", "rule", "or", "and", "not", "coat", "took", "foo", "0", "1", "2", "3", "9", "10", "12", "13", "60", "61",
        "99", "100", "999", "1000", "9999", "12345", "00001", "0001", ";", "(", ")", "+", "-", "*", "/", "<", "=", "#",
        "A", "\u00e9", "\t", ".", "((((((", "not not not not not not"};

    public static void main(String[] args) {
        int[] kinds = new int[7];
        Random dice = new Random(20261118);
        for (int t = 0; t < TEXTS; t++) {
            String text = text(dice);
            int fault = 0;
            int place = -1;
            try {
                new Second(text).read();
            } catch (Fault f) {
                fault = f.kind;
                place = f.place;
            }
            kinds[fault]++;
            ShopEyes x = new ShopEyes();
            Check.feed(x, text);
            Check.due("fault of " + text, fault, x.shop(text.length()));
            Check.due("place in " + text, place, x.fault());
        }
        for (int kind = 0; kind < 7; kind++) {
            Check.due("texts with fault " + kind, true, kinds[kind] > 100);
        }
        Check.end("FaultModelTest");
    }

    private static String text(Random dice) {
        while (true) {
            List<String> row = new ArrayList<>();
            int aisles = 1 + dice.nextInt(dice.nextInt(8) == 0 ? 11 : 4);
            for (int a = 0; a < aisles; a++) {
                row.addAll(List.of("aisle", String.valueOf(dice.nextInt(1000)), String.valueOf(dice.nextInt(100)), ";"));
                if (a > 0) {
                    row.addAll(List.of("way", String.valueOf(a), String.valueOf(a - 1), ";"));
                }
            }
            for (int lines = dice.nextInt(10); lines > 0; lines--) {
                line(row, dice, aisles);
                row.add(";");
            }
            for (int amiss = dice.nextInt(3); amiss > 0; amiss--) {
                int i = dice.nextInt(row.size());
                String some = SOME[dice.nextInt(SOME.length)];
                switch (dice.nextInt(4)) {
                    case 0 -> row.set(i, some);
                    case 1 -> row.add(i, some);
                    case 2 -> row.add(i, row.get(dice.nextInt(row.size())));
                    default -> row.remove(i);
                }
            }
            String text = written(row, dice);
            text = dice.nextInt(8) == 0 ? text.substring(0, dice.nextInt(text.length() + 1)) : text;
            if (text.length() <= 700) {
                return text;
            }
        }
    }

    private static String written(List<String> row, Random dice) {
        StringBuilder text = new StringBuilder();
        for (String token : row) {
            boolean glued = text.length() > 0 && Character.isLetterOrDigit(text.charAt(text.length() - 1))
                && Character.isLetterOrDigit(token.charAt(0));
            text.append(glued && dice.nextInt(40) != 0 || dice.nextInt(9) == 0 ? dice.nextInt(5) == 0 ? "\n" : " " : "");
            text.append(token);
        }
        return text.append(dice.nextInt(4) == 0 ? " \n" : "").toString();
    }

    private static void line(List<String> row, Random dice, int aisles) {
        switch (dice.nextInt(9)) {
            case 0 -> row.addAll(List.of("way", "" + dice.nextInt(aisles), "" + dice.nextInt(aisles)));
            case 1 -> row.addAll(List.of("mirror", "" + dice.nextInt(aisles), "" + dice.nextInt(aisles)));
            case 2 -> row.addAll(List.of("notice", "" + (1 + dice.nextInt(9))));
            case 3 -> row.addAll(List.of("false", "" + dice.nextInt(1000)));
            case 4 -> row.addAll(List.of("stops", "" + dice.nextInt(3)));
            case 5, 6 -> {
                int takes = dice.nextInt(dice.nextInt(5) == 0 ? 15 : 3);
                row.addAll(List.of("thief", "" + (1 + dice.nextInt(60)), "" + takes, "" + dice.nextInt(10), "0"));
                int at = 0;
                for (int steps = dice.nextInt(dice.nextInt(4) == 0 ? 14 : 5); steps > 0; steps--) {
                    at = Math.max(0, Math.min(aisles - 1, at + dice.nextInt(3) - 1));
                    row.add("" + at);
                }
            }
            default -> {
                row.add("rule");
                expr(row, dice, 0);
            }
        }
    }

    private static void expr(List<String> row, Random dice, int depth) {
        for (int parts = 1 + dice.nextInt(3); parts > 0; parts--) {
            if (dice.nextInt(6) == 0) {
                row.add("not");
            }
            if (dice.nextInt(depth < 2 ? 3 : 2) == 0 && depth < 7) {
                row.add("(");
                expr(row, dice, depth + 1);
                row.add(")");
            } else {
                row.add(dice.nextBoolean() ? "" + dice.nextInt(3000) : Second.VALUES.get(dice.nextInt(7)));
            }
            if (parts > 1) {
                row.add(new String[] {"and", "or", "+", "-", "*", "/", "<", "="}[dice.nextInt(8)]);
            }
        }
    }
}
