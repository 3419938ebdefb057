import java.util.ArrayDeque;
import java.util.ArrayList;
import java.util.Arrays;
import java.util.Deque;
import java.util.HashSet;
import java.util.List;
import java.util.Set;

/** A text read by a stack of what is due next, and worked out by going over its tokens anew each time. */
final class ModelText {
    /** What a law's names stand for. */
    interface Names {
        long name(String name);

        long deep(long crease);
    }

    private static final Set<String> LAWS = Set.of("presses", "scorches", "price");
    private static final Set<String> NAMES = Set.of("hour", "heat", "who", "skin", "year", "depth", "worth", "coins",
        "ties");
    private static final Set<String> COMPARED = Set.of("<", "<=", ">", ">=", "=", "#");

    int fault = 0;
    int place = -1;
    final List<List<String>> clauses = new ArrayList<>();
    private final List<String> tokens = new ArrayList<>();
    private final List<Integer> places = new ArrayList<>();

    ModelText(byte[] tape) {
        split(tape);
        read();
    }

    private void split(byte[] tape) {
        String all = new String(tape, java.nio.charset.StandardCharsets.ISO_8859_1);
        java.util.regex.Matcher m = java.util.regex.Pattern.compile("[ \n]+|[a-zA-Z]+|[0-9]+|<=|>=|[\\x00-\\xff]")
            .matcher(all);
        while (m.find()) {
            if (!m.group().isBlank() || !m.group().matches("[ \n]+")) {
                tokens.add(m.group());
                places.add(m.start());
            }
        }
        tokens.add("");
        places.add(all.length());
    }

    private static String[] clause(String first) {
        switch (first) {
            case "presses": case "scorches": case "price": return new String[] {first, "SUM", ";"};
            case "person": return new String[] {first, "0-2", "coins", "0-9999", ";"};
            case "crease": return new String[] {first, "0-4", "year", "0-99", "depth", "1-9", ";"};
            case "tie": return new String[] {first, "0-11", "to", "0-11", ";"};
            case "heat": return new String[] {first, "0-9", ";"};
            case "press": case "pattern": return new String[] {first, "0-11", ";"};
            case "damp": return new String[] {first, "1-9", ";"};
            case "hour": return new String[] {first, "1-60", ";"};
            default: return null;
        }
    }

    private static String[] one(String first) {
        if (first.matches("[0-9]+")) {
            return new String[] {"0-9999"};
        }
        if (NAMES.contains(first)) {
            return new String[] {"NAME"};
        }
        switch (first) {
            case "(": return new String[] {"deeper (", "SUM", ")", "CLOSE"};
            case "-": case "turned": case "deep": return new String[] {"deeper " + first, "ONE", "CLOSE"};
            case "if": return new String[] {"deeper if", "EITHER", "then", "SUM", "else", "SUM", "end", "CLOSE"};
            default: return null;
        }
    }

    private static String[] opened(String due, String token) {
        switch (due) {
            case "SUM": return new String[] {"PRODUCT", "SUMS"};
            case "SUMS": return rest(token.equals("+") || token.equals("-"), token, "PRODUCT", due);
            case "PRODUCT": return new String[] {"ONE", "PRODUCTS"};
            case "PRODUCTS": return rest(token.equals("*") || token.equals("/"), token, "ONE", due);
            case "EITHER": return new String[] {"BOTH", "EITHERS"};
            case "EITHERS": return rest(token.equals("or"), token, "BOTH", due);
            case "BOTH": return new String[] {"ASK", "BOTHS"};
            case "BOTHS": return rest(token.equals("and"), token, "ASK", due);
            case "ASK": return token.equals("not") ? new String[] {"deeper not", "ASK", "CLOSE"}
                : new String[] {"SUM", "COMPARED", "SUM"};
            case "ONE": return one(token);
            default: return clause(token);
        }
    }

    private static String[] rest(boolean more, String token, String part, String due) {
        return more ? new String[] {token, part, due} : new String[0];
    }

    private void read() {
        Deque<String> due = new ArrayDeque<>();
        Set<String> laws = new HashSet<>();
        int open = 0;
        String law = "";
        for (int i = 0; i < tokens.size(); i++) {
            String token = tokens.get(i);
            while (!due.isEmpty() && (due.peek().equals("CLOSE") || due.peek().matches("[A-Z]+")
                && !due.peek().equals("NAME") && !due.peek().equals("COMPARED"))) {
                String top = due.pop();
                if (top.equals("CLOSE")) {
                    open--;
                    continue;
                }
                String[] parts = opened(top, token);
                if (parts == null) {
                    note(1, i);
                    return;
                }
                for (int j = parts.length - 1; j >= 0; j--) {
                    due.push(parts[j]);
                }
            }
            if (due.isEmpty()) {
                if (token.isEmpty()) {
                    return;
                }
                String[] parts = clause(token);
                int why = parts == null ? 1 : laws.contains(token) ? 4 : clauses.size() == 24 ? 6 : 0;
                if (why != 0) {
                    note(why, i);
                    return;
                }
                law = token;
                if (LAWS.contains(token)) {
                    laws.add(token);
                }
                clauses.add(new ArrayList<>());
                for (int j = parts.length - 1; j >= 0; j--) {
                    due.push(parts[j]);
                }
            }
            String top = due.pop();
            int why = fits(top, token, law, open);
            if (why != 0) {
                note(why, i);
                return;
            }
            open += top.startsWith("deeper ") ? 1 : 0;
            clauses.get(clauses.size() - 1).add(token);
        }
    }

    private static int fits(String due, String token, String law, int open) {
        if (due.matches("[0-9]+-[0-9]+")) {
            if (!token.matches("[0-9]+")) {
                return 1;
            }
            java.math.BigInteger number = new java.math.BigInteger(token);
            String[] ends = due.split("-");
            return number.compareTo(new java.math.BigInteger(ends[0])) < 0
                || number.compareTo(new java.math.BigInteger(ends[1])) > 0 ? 2 : 0;
        }
        if (due.startsWith("deeper ")) {
            return !due.equals("deeper " + token) ? 1 : open >= 8 ? 3 : 0;
        }
        if (due.equals("NAME")) {
            boolean isOthers = token.equals("coins") && !law.equals("price")
                || token.equals("ties") && law.equals("presses");
            return !NAMES.contains(token) ? 1 : isOthers ? 5 : 0;
        }
        if (due.equals("COMPARED")) {
            return COMPARED.contains(token) ? 0 : 1;
        }
        return due.equals(token) ? 0 : 1;
    }

    private void note(int why, int i) {
        fault = why;
        place = places.get(i);
    }

    /** Null without such a law. */
    Long law(String which, Names names) {
        for (List<String> clause : clauses) {
            if (clause.get(0).equals(which)) {
                return new Worked(clause, names).sum();
            }
        }
        return null;
    }

    @Override
    public String toString() {
        return Arrays.toString(tokens.toArray());
    }

    private static final class Worked {
        private final List<String> tokens;
        private final Names names;
        private int at = 1;

        Worked(List<String> tokens, Names names) {
            this.tokens = tokens;
            this.names = names;
        }

        private boolean is(String token) {
            if (!tokens.get(at).equals(token)) {
                return false;
            }
            at++;
            return true;
        }

        private static long bounded(long number) {
            return number > 1000000 ? 1000000 : number < -1000000 ? -1000000 : number;
        }

        long sum() {
            long sum = product();
            while (true) {
                if (is("+")) {
                    sum = bounded(sum + product());
                } else if (is("-")) {
                    sum = bounded(sum - product());
                } else {
                    return sum;
                }
            }
        }

        private long product() {
            long product = one();
            while (true) {
                if (is("*")) {
                    product = bounded(product * one());
                } else if (is("/")) {
                    long by = one();
                    product = by == 0 ? 0 : (product < 0) == (by < 0)
                        ? Math.abs(product) / Math.abs(by) : -(Math.abs(product) / Math.abs(by));
                } else {
                    return product;
                }
            }
        }

        private long one() {
            if (is("(")) {
                long sum = sum();
                at++;
                return sum;
            }
            if (is("-")) {
                return bounded(-one());
            }
            if (is("turned")) {
                String size = Long.toString(Math.abs(one()));
                return Long.parseLong(new StringBuilder(size).reverse().toString());
            }
            if (is("deep")) {
                return names.deep(one());
            }
            if (is("if")) {
                boolean either = either();
                at++;
                long then = sum();
                at++;
                long otherwise = sum();
                at++;
                return either ? then : otherwise;
            }
            String token = tokens.get(at);
            at++;
            return token.matches("[0-9]+") ? Long.parseLong(token) : names.name(token);
        }

        private boolean either() {
            boolean either = both();
            while (is("or")) {
                either = both() || either;
            }
            return either;
        }

        private boolean both() {
            boolean both = ask();
            while (is("and")) {
                both = ask() && both;
            }
            return both;
        }

        private boolean ask() {
            if (is("not")) {
                return !ask();
            }
            long left = sum();
            String sign = tokens.get(at);
            at++;
            long right = sum();
            switch (sign) {
                case "<": return left < right;
                case "<=": return left <= right;
                case ">": return left > right;
                case ">=": return left >= right;
                case "=": return left == right;
                default: return left != right;
            }
        }
    }
}
