import java.util.ArrayList;
import java.util.List;
import java.util.function.Predicate;
import java.util.function.ToIntFunction;

/** The law's grammar told once more: all tokens first, then a tree of functions. */
final class PlainLaw {
    private static final List<String> KEYWORDS = List.of("pay", "when", "or", "and", "not", "sign", "place",
        "long", "used", "vowel", "owner", "day", "left", "first");

    private static final String LETTERS = "abcdefghijklmnopqrstuvwxyzABCDEFGHIJKLMNOPQRSTUVWXYZ";

    private static final class Stop extends RuntimeException {
        private static final long serialVersionUID = 1L;
        final int fault;
        final int place;

        Stop(int fault, int place) {
            super(null, null, false, false);
            this.fault = fault;
            this.place = place;
        }
    }

    int fault;
    int faultPlace = -1;
    private final List<String> tokens = new ArrayList<>();
    private final List<Integer> places = new ArrayList<>();
    private int at;
    private int open;

    PlainLaw(List<Integer> bytes) {
        StringBuilder all = new StringBuilder();
        for (int b : bytes) {
            all.append((char) b);
        }
        String text = all.toString();
        for (int i = 0; i < text.length();) {
            int j = i + 1;
            for (String kind : List.of(LETTERS, "0123456789")) {
                if (kind.indexOf(text.charAt(i)) >= 0) {
                    while (j < text.length() && kind.indexOf(text.charAt(j)) >= 0) {
                        j++;
                    }
                }
            }
            if (" \n".indexOf(text.charAt(i)) < 0) {
                tokens.add(text.substring(i, j));
                places.add(i);
            }
            i = j;
        }
        tokens.add("");
        places.add(text.length());
    }

    List<PlainHouse.Line> read() {
        try {
            List<PlainHouse.Line> lines = new ArrayList<>();
            while (!is("")) {
                if (is("pay") && lines.size() == 16) {
                    throw new Stop(3, places.get(at));
                }
                eat("pay");
                PlainHouse.Line line = new PlainHouse.Line();
                line.pay = sum();
                if (is("when")) {
                    at++;
                    line.when = any();
                }
                eat(";");
                lines.add(line);
            }
            return lines;
        } catch (Stop stop) {
            fault = stop.fault;
            faultPlace = stop.place;
            return null;
        }
    }

    private boolean is(String token) {
        return tokens.get(at).equals(token);
    }

    private Stop cannotStand() {
        return new Stop(1, places.get(at));
    }

    private void eat(String token) {
        if (!is(token)) {
            throw cannotStand();
        }
        at++;
    }

    private Predicate<PlainHouse.Facts> any() {
        Predicate<PlainHouse.Facts> p = all();
        while (is("or")) {
            at++;
            p = p.or(all());
        }
        return p;
    }

    private Predicate<PlainHouse.Facts> all() {
        Predicate<PlainHouse.Facts> p = claim();
        while (is("and")) {
            at++;
            p = p.and(claim());
        }
        return p;
    }

    private Predicate<PlainHouse.Facts> claim() {
        if (is("not") || is("(")) {
            if (open == 8) {
                throw new Stop(3, places.get(at));
            }
            open++;
            boolean not = is("not");
            at++;
            Predicate<PlainHouse.Facts> p = not ? claim().negate() : any();
            if (!not) {
                eat(")");
            }
            open--;
            return p;
        }
        ToIntFunction<PlainHouse.Facts> a = sum();
        String op = tokens.get(at);
        if (!op.equals("<") && !op.equals("=") && !op.equals(">")) {
            throw cannotStand();
        }
        at++;
        ToIntFunction<PlainHouse.Facts> b = sum();
        int sign = op.charAt(0) - '=';
        return f -> Integer.compare(a.applyAsInt(f), b.applyAsInt(f)) == sign;
    }

    private ToIntFunction<PlainHouse.Facts> sum() {
        ToIntFunction<PlainHouse.Facts> all = product();
        while (is("+") || is("-")) {
            int sign = is("+") ? 1 : -1;
            at++;
            ToIntFunction<PlainHouse.Facts> a = all;
            ToIntFunction<PlainHouse.Facts> b = product();
            all = f -> a.applyAsInt(f) + sign * b.applyAsInt(f);
        }
        return all;
    }

    private ToIntFunction<PlainHouse.Facts> product() {
        ToIntFunction<PlainHouse.Facts> all = unit();
        while (is("*") || is("/")) {
            boolean times = is("*");
            at++;
            ToIntFunction<PlainHouse.Facts> a = all;
            if (times) {
                ToIntFunction<PlainHouse.Facts> b = unit();
                all = f -> a.applyAsInt(f) * b.applyAsInt(f);
            } else {
                int n = number();
                if (n == 0) {
                    throw new Stop(2, places.get(at));
                }
                at++;
                all = f -> a.applyAsInt(f) / n;
            }
        }
        return all;
    }

    private int number() {
        if (!tokens.get(at).matches("[0-9]{1,4}")) {
            throw cannotStand();
        }
        return Integer.parseInt(tokens.get(at));
    }

    private ToIntFunction<PlainHouse.Facts> unit() {
        int which = KEYWORDS.indexOf(tokens.get(at));
        if (which < 5) {
            int n = number();
            at++;
            return f -> n;
        }
        at++;
        switch (which) {
            case 5: return f -> f.sign;
            case 6: return f -> f.place;
            case 7: return f -> f.longs;
            case 8: return f -> f.used;
            case 9: return f -> f.vowel;
            case 10: return f -> f.owner;
            case 11: return f -> f.day;
            case 12: return f -> f.left;
            default: return f -> f.first;
        }
    }
}
