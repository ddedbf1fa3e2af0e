import java.util.ArrayDeque;
import java.util.ArrayList;
import java.util.Deque;
import java.util.List;
import java.util.function.ToIntFunction;
import java.util.regex.Matcher;
import java.util.regex.Pattern;

/** RULES read another way: first an automaton looks for the FAULT, then the text is cut at its operators. */
final class OracleRules {
    private static final List<String> FACTS =
        List.of("maker", "track", "tongue", "frames", "wear", "firm", "seats", "band", "price", "week");
    private static final List<String> OTHERS = List.of("bar", "fee", "keep", "when", "or", "and", "not");
    private static final Pattern TOKEN = Pattern.compile("[A-Za-z]+|[0-9]+|[^ \n]", Pattern.DOTALL);

    private enum Want { LINE, VALUE, PART, BEHIND_VALUE, C, BEHIND_C }

    int fault;
    int place = -1;
    private final List<String> tokens = new ArrayList<>();

    OracleRules(String text) {
        List<Integer> places = new ArrayList<>();
        Matcher m = TOKEN.matcher(text);
        while (m.find()) {
            tokens.add(m.group());
            places.add(m.start());
        }
        places.add(text.length());
        int wrong = watch();
        if (wrong >= 0) {
            place = places.get(wrong);
        }
    }

    private static boolean isNumber(String t) {
        return t.matches("[0-9]{1,4}");
    }

    /** The token at which the first FAULT is, or -1. */
    private int watch() {
        Want want = Want.LINE;
        Deque<Character> open = new ArrayDeque<>();
        int lines = 0;
        int side = 0; // 0: of a fee or keep; 1, 2: of a comparison
        boolean when = false;
        for (int i = 0; i <= tokens.size(); i++) {
            String t = i < tokens.size() ? tokens.get(i) : "";
            boolean fact = FACTS.contains(t);
            fault = 1;
            switch (want) {
                case LINE -> {
                    if (t.isEmpty()) {
                        fault = 0;
                        return -1;
                    }
                    if (!t.equals("bar") && !t.equals("fee") && !t.equals("keep")) {
                        return i;
                    }
                    lines++;
                    if (lines > 20) {
                        fault = 3;
                        return i;
                    }
                    when = t.equals("bar");
                    side = when ? 1 : 0;
                    want = when ? Want.C : Want.VALUE;
                }
                case VALUE -> {
                    if (!fact && !isNumber(t)) {
                        return i;
                    }
                    want = Want.BEHIND_VALUE;
                }
                case PART -> {
                    if (!isNumber(t)) {
                        return i;
                    }
                    if (Integer.parseInt(t) == 0) {
                        fault = 2;
                        return i;
                    }
                    want = Want.BEHIND_VALUE;
                }
                case C -> {
                    if (t.equals("not") || t.equals("(")) {
                        if (open.size() == 8) {
                            fault = 3;
                            return i;
                        }
                        open.push(t.charAt(0));
                    } else if (fact || isNumber(t)) {
                        side = 1;
                        want = Want.BEHIND_VALUE;
                    } else {
                        return i;
                    }
                }
                default -> {
                    boolean value = want == Want.BEHIND_VALUE;
                    if (value && (t.equals("+") || t.equals("-") || t.equals("*"))) {
                        want = Want.VALUE;
                    } else if (value && t.equals("/")) {
                        want = Want.PART;
                    } else if (value && side == 1) {
                        if (!t.equals("<") && !t.equals("=") && !t.equals(">")) {
                            return i;
                        }
                        side = 2;
                        want = Want.VALUE;
                    } else if (value && side == 0 && t.equals("when")) {
                        want = Want.C;
                    } else if (value && side == 0) {
                        if (!t.equals(";")) {
                            return i;
                        }
                        want = Want.LINE;
                    } else {
                        while (!open.isEmpty() && open.peek() == 'n') {
                            open.pop();
                        }
                        if (t.equals("and") || t.equals("or")) {
                            want = Want.C;
                        } else if (t.equals(")") && !open.isEmpty()) {
                            open.pop();
                            while (!open.isEmpty() && open.peek() == 'n') {
                                open.pop();
                            }
                            want = Want.BEHIND_C;
                        } else if (t.equals(";") && open.isEmpty()) {
                            want = Want.LINE;
                        } else {
                            return i;
                        }
                    }
                }
            }
        }
        throw new IllegalStateException("the end was not refused");
    }

    List<Oracle.Line> lines() {
        List<Oracle.Line> all = new ArrayList<>();
        int from = 0;
        for (int i = 0; i < tokens.size(); i++) {
            if (tokens.get(i).equals(";")) {
                all.add(line(tokens.subList(from, i)));
                from = i + 1;
            }
        }
        return all;
    }

    private static Oracle.Line line(List<String> t) {
        List<String> rest = t.subList(1, t.size());
        if (t.get(0).equals("bar")) {
            return new Oracle.Line("bar", f -> 0, condition(rest));
        }
        int when = rest.indexOf("when");
        ToIntFunction<int[]> so = when < 0 ? f -> 1 : condition(rest.subList(when + 1, rest.size()));
        return new Oracle.Line(t.get(0), value(when < 0 ? rest : rest.subList(0, when)), so);
    }

    /** The place of the last such token that stands in no brackets. */
    private static int last(List<String> t, List<String> wanted) {
        int depth = 0;
        for (int i = t.size() - 1; i >= 0; i--) {
            depth += t.get(i).equals(")") ? 1 : t.get(i).equals("(") ? -1 : 0;
            if (depth == 0 && wanted.contains(t.get(i))) {
                return i;
            }
        }
        return -1;
    }

    private static ToIntFunction<int[]> condition(List<String> t) {
        for (String word : List.of("or", "and")) {
            int i = last(t, List.of(word));
            if (i >= 0) {
                ToIntFunction<int[]> a = condition(t.subList(0, i));
                ToIntFunction<int[]> b = condition(t.subList(i + 1, t.size()));
                return word.equals("or") ? f -> Math.max(a.applyAsInt(f), b.applyAsInt(f))
                    : f -> Math.min(a.applyAsInt(f), b.applyAsInt(f));
            }
        }
        if (t.get(0).equals("not")) {
            ToIntFunction<int[]> a = condition(t.subList(1, t.size()));
            return f -> 1 - a.applyAsInt(f);
        }
        if (t.get(0).equals("(")) {
            return condition(t.subList(1, t.size() - 1));
        }
        int i = last(t, List.of("<", "=", ">"));
        ToIntFunction<int[]> a = value(t.subList(0, i));
        ToIntFunction<int[]> b = value(t.subList(i + 1, t.size()));
        int sign = t.get(i).charAt(0) - '=';
        return f -> Integer.compare(a.applyAsInt(f), b.applyAsInt(f)) == sign ? 1 : 0;
    }

    private static ToIntFunction<int[]> value(List<String> t) {
        for (List<String> signs : List.of(List.of("+", "-"), List.of("*", "/"))) {
            int i = last(t, signs);
            if (i >= 0) {
                ToIntFunction<int[]> a = value(t.subList(0, i));
                ToIntFunction<int[]> b = value(t.subList(i + 1, t.size()));
                return switch (t.get(i)) {
                    case "+" -> f -> a.applyAsInt(f) + b.applyAsInt(f);
                    case "-" -> f -> a.applyAsInt(f) - b.applyAsInt(f);
                    case "*" -> f -> a.applyAsInt(f) * b.applyAsInt(f);
                    default -> f -> a.applyAsInt(f) / b.applyAsInt(f);
                };
            }
        }
        String only = t.get(0);
        if (OTHERS.contains(only)) {
            throw new IllegalStateException(only + " is no value");
        }
        int fact = FACTS.indexOf(only);
        int number = fact < 0 ? Integer.parseInt(only) : 0;
        return fact < 0 ? f -> number : f -> f[fact];
    }
}
