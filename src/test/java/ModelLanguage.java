import java.util.ArrayDeque;
import java.util.ArrayList;
import java.util.Arrays;
import java.util.Deque;
import java.util.List;
import java.util.Set;
import java.util.regex.Matcher;
import java.util.regex.Pattern;

/**
 * The language once more, read in another way: tokens by patterns, error 1 by a stack of what is
 * still expected, and tests and sums reckoned from their tokens each time.
 */
final class ModelLanguage {

    private static final Pattern TOKEN = Pattern.compile(
            "[a-z][a-z0-9]*|[0-9]+|<=|>=|[()\\[\\];,+*/<>=-]");
    private static final Set<String> KEYWORDS = Set.of("insult", "hear", "mock", "echo", "forget",
            "when", "day", "length", "longest", "kinds", "count", "place", "of", "knows", "not",
            "and", "or", "min", "max");
    private static final Set<String> VALUES = Set.of("#", "day", "length", "longest", "kinds",
            "count", "place", "-", "(", "min", "max");

    /** A token: its text, its place, and its kind: # for a number, ? for a name, or its text. */
    record Token(String text, int at, String kind) {
    }

    /** An order: its action, its word, and its tokens: those of the sum and those of the test. */
    record Order(String action, String word, List<Token> sum, List<Token> test) {
        boolean isDone(Model model) {
            if (!test.isEmpty() && new Reckoner(model, test).test() == 0) {
                return false;
            }
            if (action.equals("hear") || action.equals("mock")) {
                model.hear(word);
                return true;
            }
            int number = model.inside(new Reckoner(model, sum).sum());
            if (action.equals("echo")) {
                model.echo(number);
            } else {
                model.forget(number);
            }
            return number > 0;
        }
    }

    final List<String> insults = new ArrayList<>();
    final List<Order> orders = new ArrayList<>();
    int error = 0;
    int errorAt = -1;
    private final List<Token> tokens = new ArrayList<>();

    ModelLanguage(String text) {
        split(text);
        for (Token wrong : grammar()) {
            error = 1;
            errorAt = wrong.at();
            return;
        }
        look();
    }

    // ---- tokens; the last one has the kind "end", or "wrong"

    private void split(String text) {
        int at = 0;
        while (true) {
            while (at < text.length() && " \n".indexOf(text.charAt(at)) >= 0) {
                at++;
            }
            if (at == text.length()) {
                tokens.add(new Token("", at, "end"));
                return;
            }
            Matcher matcher = TOKEN.matcher(text).region(at, text.length());
            if (!matcher.lookingAt() || tokens.size() == 400) {
                tokens.add(new Token("", at, "wrong"));
                return;
            }
            String kind = kindOf(matcher.group());
            tokens.add(new Token(matcher.group(), at, kind));
            if (kind.equals("wrong")) {
                return;
            }
            at = matcher.end();
        }
    }

    private static String kindOf(String text) {
        char first = text.charAt(0);
        if (first >= '0' && first <= '9') {
            return text.length() > 6 ? "wrong" : "#";
        }
        if (first >= 'a' && first <= 'z') {
            return text.length() > 10 ? "wrong" : KEYWORDS.contains(text) ? text : "?";
        }
        return text;
    }

    // ---- error 1: the stack holds what is expected, the nearest on top; "up" ends a depth

    private List<Token> grammar() {
        Deque<String> expected = new ArrayDeque<>();
        expected.push("end");
        expected.push("PLAN");
        int depth = 0;
        for (Token token : tokens) {
            while (true) {
                String top = expected.pop();
                if (top.equals("up")) {
                    depth--;
                } else if (top.startsWith("deep")) {
                    if (!token.kind().equals(top.substring(4)) || depth == 8) {
                        return List.of(token);
                    }
                    depth++;
                    break;
                } else if (top.equals(top.toUpperCase()) && top.length() > 2) {
                    String rule = rule(top, token.kind());
                    if (rule == null) {
                        return List.of(token);
                    }
                    List<String> parts = new ArrayList<>(Arrays.asList(rule.split(" ")));
                    for (int i = parts.size() - 1; i >= 0; i--) {
                        if (!parts.get(i).isEmpty()) {
                            expected.push(parts.get(i));
                        }
                    }
                } else {
                    if (!top.equals(token.kind())) {
                        return List.of(token);
                    }
                    break;
                }
            }
        }
        return List.of();
    }

    private static String rule(String what, String next) {
        switch (what) {
            case "PLAN":
                return next.equals("end") ? "" : "LINE ; PLAN";
            case "LINE":
                return switch (next) {
                    case "insult" -> "insult ?";
                    case "hear", "mock" -> next + " ? WHEN";
                    case "echo", "forget" -> next + " SUM WHEN";
                    default -> null;
                };
            case "WHEN":
                return next.equals("when") ? "when TEST" : "";
            case "TEST":
                return "BOTH ORS";
            case "ORS":
                return next.equals("or") ? "or BOTH ORS" : "";
            case "BOTH":
                return "SINGLE ANDS";
            case "ANDS":
                return next.equals("and") ? "and SINGLE ANDS" : "";
            case "SINGLE":
                return switch (next) {
                    case "not" -> "deepnot SINGLE up";
                    case "[" -> "deep[ TEST up ]";
                    case "knows" -> "knows ?";
                    default -> VALUES.contains(next) ? "SUM COMPARE SUM" : null;
                };
            case "COMPARE":
                return Set.of("<", ">", "=", "<=", ">=").contains(next) ? next : null;
            case "SUM":
                return "PRODUCT ADDS";
            case "ADDS":
                return next.equals("+") || next.equals("-") ? next + " PRODUCT ADDS" : "";
            case "PRODUCT":
                return "VALUE TIMES";
            case "TIMES":
                return next.equals("*") || next.equals("/") ? next + " VALUE TIMES" : "";
            case "VALUE":
                return switch (next) {
                    case "#", "day", "length", "longest", "kinds" -> next;
                    case "count", "place" -> next + " of ?";
                    case "-" -> "deep- VALUE up";
                    case "(" -> "deep( SUM up )";
                    case "min", "max" -> next + " deep( SUM , SUM up )";
                    default -> null;
                };
            default:
                throw new IllegalStateException(what);
        }
    }

    // ---- errors 2 to 5, and the orders

    private void look() {
        for (int i = 0; i < tokens.size() && error == 0; i++) {
            Token token = tokens.get(i);
            boolean isAction = Set.of("hear", "mock", "echo", "forget").contains(token.kind());
            if (isAction && orders.size() == 16) {
                fail(4, token);
            } else if (isAction) {
                orders.add(order(i));
            } else if (token.kind().equals("?")) {
                lookAtName(token, tokens.get(i - 1).kind());
            }
        }
    }

    private void lookAtName(Token name, String ahead) {
        boolean hasDigit = name.text().matches(".*[0-9].*");
        if (ahead.equals("insult") && insults.contains(name.text())) {
            fail(2, name);
        } else if (ahead.equals("insult") && insults.size() == 8) {
            fail(4, name);
        } else if (ahead.equals("insult") || ahead.equals("hear")) {
            if (hasDigit) {
                fail(5, name);
            } else if (ahead.equals("insult")) {
                insults.add(name.text());
            }
        } else if (!insults.contains(name.text())) {
            fail(3, name);
        }
    }

    private void fail(int kind, Token token) {
        error = kind;
        errorAt = token.at();
    }

    private Order order(int from) {
        int when = from;
        while (!Set.of("when", ";").contains(tokens.get(when).kind())) {
            when++;
        }
        int end = when;
        while (!tokens.get(end).kind().equals(";")) {
            end++;
        }
        return new Order(tokens.get(from).kind(), tokens.get(from + 1).text(),
                tokens.subList(from + 1, when), tokens.subList(Math.min(when + 1, end), end));
    }

    /** Reckons tests and sums straight from their tokens. */
    private static final class Reckoner {
        private final Model model;
        private final List<Token> tokens;
        private int at = 0;

        Reckoner(Model model, List<Token> tokens) {
            this.model = model;
            this.tokens = tokens;
        }

        private String next() {
            return at < tokens.size() ? tokens.get(at).kind() : "";
        }

        private boolean skip(String kind) {
            boolean is = next().equals(kind);
            at += is ? 1 : 0;
            return is;
        }

        int test() {
            int so = both();
            while (skip("or")) {
                so = Math.max(so, both());
            }
            return so;
        }

        private int both() {
            int so = single();
            while (skip("and")) {
                so = Math.min(so, single());
            }
            return so;
        }

        private int single() {
            if (skip("not")) {
                return 1 - single();
            }
            if (skip("[")) {
                int so = test();
                skip("]");
                return so;
            }
            if (skip("knows")) {
                return model.letters.contains(tokens.get(at++).text()) ? 1 : 0;
            }
            long left = sum();
            String sign = tokens.get(at++).kind();
            long difference = left - sum();
            return sign.contains("<") && difference < 0 || sign.contains(">") && difference > 0
                    || sign.contains("=") && difference == 0 ? 1 : 0;
        }

        int sum() {
            long sum = product();
            while (next().equals("+") || next().equals("-")) {
                long sign = tokens.get(at++).kind().equals("+") ? 1 : -1;
                sum = (int) (sum + sign * product());
            }
            return (int) sum;
        }

        private int product() {
            long product = value();
            while (next().equals("*") || next().equals("/")) {
                boolean times = tokens.get(at++).kind().equals("*");
                long right = value();
                product = (int) (times ? product * right : right == 0 ? 0 : product / right);
            }
            return (int) product;
        }

        private int value() {
            Token token = tokens.get(at++);
            switch (token.kind()) {
                case "#":
                    return Integer.parseInt(token.text());
                case "day":
                    return model.day;
                case "length":
                    return model.letters.length();
                case "longest":
                    return model.repeat().length();
                case "kinds":
                    return model.kinds();
                case "-":
                    return -value();
                default:
                    return longValue(token.kind());
            }
        }

        private int longValue(String kind) {
            at += kind.equals("(") ? 0 : 1;
            if (kind.equals("count")) {
                return model.count(tokens.get(at++).text());
            }
            if (kind.equals("place")) {
                return model.letters.indexOf(tokens.get(at++).text());
            }
            int first = sum();
            if (skip(",")) {
                int second = sum();
                first = kind.equals("min") ? Math.min(first, second) : Math.max(first, second);
            }
            skip(")");
            return first;
        }
    }
}
