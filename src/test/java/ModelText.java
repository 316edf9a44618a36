import java.util.ArrayList;
import java.util.HashMap;
import java.util.HashSet;
import java.util.List;
import java.util.Map;
import java.util.Set;
import java.util.regex.Matcher;
import java.util.regex.Pattern;

/**
 * The language, told another way: error 1 is found by a recogniser for any grammar (Earley's),
 * whose kinds of phrases have a depth each; then the tests are read by the strength of their signs.
 */
final class ModelText {
    interface Sum {
        int of(Model m, Model.Bout b);
    }

    static final class Rule {
        int outcome;
        Sum test;
    }

    private static final Pattern TOKEN = Pattern.compile("[a-z][a-z0-9]*|[0-9]+|<=|>=|[\\[\\]();,+\\-*/<>=]");
    private static final Set<String> KEYWORDS = Set.of(("wrestler strength points draw rest rule red blue wins when "
            + "round won met belts floats not and or min max").split(" "));

    int error = 0;
    int errorAt = -1;
    final List<Integer> strengths = new ArrayList<>();
    final List<Rule> rules = new ArrayList<>();
    int[] worth = {2, 1, 2};

    private final List<String> tokens = new ArrayList<>();
    private final List<Integer> starts = new ArrayList<>();
    private int at = 0;

    ModelText(String tape) {
        split(tape);
        int bad = firstUnfit();
        if (bad >= 0) {
            error = 1;
            errorAt = starts.get(bad);
            return;
        }
        readAll();
    }

    /** The last token is "end" in capitals, or "?" where none begins. */
    private void split(String tape) {
        Matcher m = TOKEN.matcher(tape);
        int i = 0;
        while (true) {
            while (i < tape.length() && (tape.charAt(i) == ' ' || tape.charAt(i) == '\n')) {
                i++;
            }
            starts.add(i);
            if (i == tape.length()) {
                tokens.add("END");
                return;
            }
            boolean fits = m.find(i) && m.start() == i && tokens.size() < 400;
            if (fits) {
                char c = m.group().charAt(0);
                int most = c >= 'a' && c <= 'z' ? 10 : c >= '0' && c <= '9' ? 6 : 2;
                fits = m.group().length() <= most;
            }
            if (!fits) {
                tokens.add("?");
                return;
            }
            tokens.add(m.group());
            i = m.end();
        }
    }

    // ---- error 1

    private static final Map<String, List<String[]>> GRAMMAR = grammar();

    private static void put(Map<String, List<String[]>> g, String kind, String... ways) {
        for (String way : ways) {
            g.computeIfAbsent(kind, k -> new ArrayList<>()).add(way.isEmpty() ? new String[0] : way.split(" "));
        }
    }

    /** Upper case: kinds of phrases; N9 and the like, whose depth is too great, have no ways. */
    private static Map<String, List<String[]>> grammar() {
        Map<String, List<String[]>> g = new HashMap<>();
        put(g, "ALL", "T END");
        put(g, "T", "", "T LINE ;");
        put(g, "LINE", "wrestler #name strength #number", "points #number #number #number",
                "rule OUTCOME", "rule OUTCOME when TEST0");
        put(g, "OUTCOME", "red wins", "blue wins", "draw");
        put(g, "SIDE", "red", "blue");
        for (int d = 0; d <= 8; d++) {
            int e = d + 1;
            String not = e > 8 ? "" : "not SINGLE" + e;
            put(g, "TEST" + d, "BOTH" + d, "TEST" + d + " or BOTH" + d);
            put(g, "BOTH" + d, "SINGLE" + d, "BOTH" + d + " and SINGLE" + d);
            put(g, "SINGLE" + d, "met", "SUM" + d + " COMPARED SUM" + d);
            put(g, "SUM" + d, "PRODUCT" + d, "SUM" + d + " + PRODUCT" + d, "SUM" + d + " - PRODUCT" + d);
            put(g, "PRODUCT" + d, "VALUE" + d, "PRODUCT" + d + " * VALUE" + d, "PRODUCT" + d + " / VALUE" + d);
            put(g, "VALUE" + d, "#number", "round", "OF SIDE");
            if (e <= 8) {
                put(g, "SINGLE" + d, not, "[ TEST" + e + " ]");
                put(g, "VALUE" + d, "- VALUE" + e, "( SUM" + e + " )",
                        "min ( SUM" + e + " , SUM" + e + " )", "max ( SUM" + e + " , SUM" + e + " )");
            } else {
                put(g, "VALUE" + d, "min NEVER", "max NEVER");
            }
        }
        put(g, "COMPARED", "<", ">", "=", "<=", ">=");
        put(g, "OF", "strength", "won", "belts", "floats", "rest", "points");
        return g;
    }

    private record Item(String kind, String[] way, int done, int from) {
        String next() {
            return done < way.length ? way[done] : null;
        }
    }

    private boolean matches(String symbol, String token) {
        char c = token.charAt(0);
        if (symbol.equals("#number")) {
            return c >= '0' && c <= '9';
        }
        if (symbol.equals("#name")) {
            return c >= 'a' && c <= 'z' && !KEYWORDS.contains(token);
        }
        return symbol.equals(token);
    }

    /** The number of the first token with which those so far begin no tournament, or -1. */
    private int firstUnfit() {
        List<Set<Item>> sets = new ArrayList<>();
        Set<Item> now = new HashSet<>();
        for (String[] way : GRAMMAR.get("ALL")) {
            now.add(new Item("ALL", way, 0, 0));
        }
        for (int i = 0; i < tokens.size(); i++) {
            List<Item> work = new ArrayList<>(now);
            sets.add(now);
            for (int k = 0; k < work.size(); k++) {
                for (Item found : follow(work.get(k), i, sets)) {
                    if (now.add(found)) {
                        work.add(found);
                    }
                }
            }
            Set<Item> behind = new HashSet<>();
            for (Item item : now) {
                if (item.next() != null && matches(item.next(), tokens.get(i))) {
                    behind.add(new Item(item.kind(), item.way(), item.done() + 1, item.from()));
                }
            }
            if (behind.isEmpty()) {
                return i;
            }
            now = behind;
        }
        return -1;
    }

    private static List<Item> follow(Item item, int i, List<Set<Item>> sets) {
        List<Item> found = new ArrayList<>();
        if (item.next() == null) {
            for (Item open : new ArrayList<>(sets.get(item.from()))) {
                if (item.kind().equals(open.next())) {
                    found.add(new Item(open.kind(), open.way(), open.done() + 1, open.from()));
                }
            }
        } else if (GRAMMAR.containsKey(item.next())) {
            for (String[] way : GRAMMAR.get(item.next())) {
                found.add(new Item(item.next(), way, 0, i));
                // A phrase without tokens is whole at once.
                if (way.length == 0) {
                    found.add(new Item(item.kind(), item.way(), item.done() + 1, item.from()));
                }
            }
        }
        return found;
    }

    // ---- a tournament without error 1

    private void note(int found, int token) {
        if (error == 0) {
            error = found;
            errorAt = starts.get(token);
        }
    }

    private void readAll() {
        List<String> names = new ArrayList<>();
        while (!tokens.get(at).equals("END")) {
            String first = tokens.get(at);
            if (first.equals("wrestler")) {
                String name = tokens.get(at + 1);
                int strength = Integer.parseInt(tokens.get(at + 3));
                if (names.contains(name)) {
                    note(2, at + 1);
                }
                if (names.size() >= 12) {
                    note(4, at + 1);
                }
                if (strength < 1 || strength > 999) {
                    note(5, at + 3);
                }
                names.add(name);
                strengths.add(strength);
                at += 4;
            } else if (first.equals("points")) {
                worth = new int[3];
                for (int i = 0; i < 3; i++) {
                    worth[i] = Integer.parseInt(tokens.get(at + 1 + i));
                    if (worth[i] > 9) {
                        note(5, at + 1 + i);
                    }
                }
                at += 4;
            } else {
                if (rules.size() >= 16) {
                    note(4, at);
                }
                Rule rule = new Rule();
                String outcome = tokens.get(at + 1);
                rule.outcome = outcome.equals("red") ? 0 : outcome.equals("draw") ? 1 : 2;
                at += outcome.equals("draw") ? 2 : 3;
                if (tokens.get(at).equals("when")) {
                    at++;
                    rule.test = read(0);
                }
                rules.add(rule);
            }
            at++;
        }
    }

    /** How strongly a sign binds those beside it; 0 if it is none that joins two. */
    private static int strengthOfSign(String sign) {
        switch (sign) {
            case "or":
                return 1;
            case "and":
                return 2;
            case "<": case ">": case "=": case "<=": case ">=":
                return 4;
            case "+": case "-":
                return 5;
            case "*": case "/":
                return 6;
            default:
                return 0;
        }
    }

    private Sum read(int weakest) {
        Sum left = readFirst();
        while (strengthOfSign(tokens.get(at)) > weakest) {
            String sign = tokens.get(at);
            at++;
            Sum one = left;
            Sum other = read(strengthOfSign(sign));
            left = (m, b) -> join(sign, one.of(m, b), other.of(m, b));
        }
        return left;
    }

    private Sum readFirst() {
        String token = tokens.get(at);
        at++;
        if (Character.isDigit(token.charAt(0))) {
            int number = Integer.parseInt(token);
            return (m, b) -> number;
        }
        switch (token) {
            case "(": case "[": {
                Sum inner = read(0);
                at++;
                return inner;
            }
            case "-": {
                Sum inner = readFirst();
                return (m, b) -> -inner.of(m, b);
            }
            case "not": {
                Sum inner = read(3);
                return (m, b) -> inner.of(m, b) != 0 ? 0 : 1;
            }
            case "met":
                return (m, b) -> m.timesMet(b.red, b.blue) >= 2 ? 1 : 0;
            case "round":
                return (m, b) -> m.valueOf(token, 0);
            case "min": case "max": {
                at++;
                Sum one = read(0);
                at++;
                Sum other = read(0);
                at++;
                return (m, b) -> join(token, one.of(m, b), other.of(m, b));
            }
            default: {
                boolean red = tokens.get(at).equals("red");
                at++;
                return (m, b) -> m.valueOf(token, red ? b.red : b.blue);
            }
        }
    }

    private static int join(String sign, int a, int b) {
        long x = a;
        long y = b;
        switch (sign) {
            case "or":
                return a + b > 0 ? 1 : 0;
            case "and":
                return a * b;
            case "<":
                return x - y < 0 ? 1 : 0;
            case ">":
                return x - y > 0 ? 1 : 0;
            case "=":
                return x - y == 0 ? 1 : 0;
            case "<=":
                return x - y <= 0 ? 1 : 0;
            case ">=":
                return x - y >= 0 ? 1 : 0;
            case "+":
                return (int) (x + y);
            case "-":
                return (int) (x - y);
            case "*":
                return (int) (x * y);
            case "/":
                return y == 0 ? 0 : (int) (x / y);
            case "min":
                return x < y ? a : b;
            default:
                return x > y ? a : b;
        }
    }
}
