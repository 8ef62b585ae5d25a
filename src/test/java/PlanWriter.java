import java.util.ArrayList;
import java.util.List;
import java.util.Random;

/** Writes plans by chance (always the same ones, from its seed), some of them with errors. */
final class PlanWriter {

    private static final String[] ANY = {"insult", "hear", "mock", "echo", "forget", "when", "day",
        "length", "longest", "kinds", "count", "place", "of", "knows", "not", "and", "or", "min",
        "max", "(", ")", "[", "]", ";", ",", "+", "-", "*", "/", "<", ">", "=", "<=", ">=", "a",
        "ab", "a1", "zz", "0", "7", "999999", "1000000", "abcdefghij", "abcdefghijk", "A", "!",
        "_", "\t", "\0", "\u00ff"};

    private final Random random;
    private final List<String> tokens = new ArrayList<>();
    private final List<String> names = new ArrayList<>();

    PlanWriter(Random random) {
        this.random = random;
    }

    String write() {
        tokens.clear();
        names.clear();
        int lines = random.nextInt(random.nextInt(6) == 0 ? 30 : 12);
        for (int i = 0; i < lines; i++) {
            writeLine(i);
            add(";");
        }
        int damages = random.nextInt(3) == 0 ? 1 + random.nextInt(2) : 0;
        for (int i = 0; i < damages; i++) {
            damage();
        }
        String text = spaced();
        return text.substring(0, Math.min(text.length(), 2000));
    }

    private void add(String token) {
        tokens.add(token);
    }

    private boolean chance(int oneOf) {
        return random.nextInt(oneOf) == 0;
    }

    private String pick(String... some) {
        return some[random.nextInt(some.length)];
    }

    private String word() {
        StringBuilder word = new StringBuilder();
        int length = 1 + random.nextInt(chance(8) ? 10 : 4);
        for (int i = 0; i < length; i++) {
            word.append((char) ('a' + random.nextInt(chance(6) ? 26 : 3)));
        }
        return chance(150) ? word.substring(0, Math.min(9, length)) + random.nextInt(10)
                : word.toString();
    }

    private String name() {
        return names.isEmpty() || chance(150) ? word() : names.get(random.nextInt(names.size()));
    }

    private void writeLine(int line) {
        if (line == 0 || chance(4) && names.size() < 9) {
            String word = word();
            add("insult");
            add(word);
            if (!names.contains(word) || chance(20)) {
                names.add(word);
            }
            return;
        }
        String action = pick("hear", "mock", "echo", "forget");
        add(action);
        if (action.equals("hear")) {
            add(word());
        } else if (action.equals("mock")) {
            add(name());
        } else {
            writeSum(random.nextInt(4));
        }
        if (chance(2)) {
            add("when");
            writeTest(random.nextInt(4));
        }
    }

    private void writeTest(int depth) {
        int parts = 1 + random.nextInt(3);
        for (int i = 0; i < parts; i++) {
            if (i > 0) {
                add(pick("and", "or"));
            }
            writeSingle(depth);
        }
    }

    private void writeSingle(int depth) {
        switch (depth > 0 ? random.nextInt(4) : 2 + random.nextInt(2)) {
            case 0:
                add("not");
                writeSingle(depth - 1);
                break;
            case 1:
                add("[");
                writeTest(depth - 1);
                add("]");
                break;
            case 2:
                add("knows");
                add(name());
                break;
            default:
                writeSum(depth);
                add(pick("<", ">", "=", "<=", ">="));
                writeSum(depth);
                break;
        }
    }

    private void writeSum(int depth) {
        int parts = 1 + random.nextInt(3);
        for (int i = 0; i < parts; i++) {
            if (i > 0) {
                add(pick("+", "-", "*", "/"));
            }
            writeValue(depth);
        }
    }

    private void writeValue(int depth) {
        switch (depth > 0 ? random.nextInt(6) : 3 + random.nextInt(3)) {
            case 0:
                add("-");
                writeValue(depth - 1);
                break;
            case 1:
                add("(");
                writeSum(depth - 1);
                add(")");
                break;
            case 2:
                add(pick("min", "max"));
                add("(");
                writeSum(depth - 1);
                add(",");
                writeSum(depth - 1);
                add(")");
                break;
            case 3:
                add(pick("count", "place"));
                add("of");
                add(name());
                break;
            case 4:
                add(pick("day", "length", "longest", "kinds"));
                break;
            default:
                add(String.valueOf(random.nextInt(chance(8) ? 1000000 : 12)));
                break;
        }
    }

    private void damage() {
        int at = tokens.isEmpty() ? 0 : random.nextInt(tokens.size());
        if (tokens.isEmpty() || chance(3)) {
            tokens.add(at, pick(ANY));
        } else if (chance(2)) {
            tokens.set(at, pick(ANY));
        } else if (chance(2)) {
            tokens.remove(at);
        } else {
            int times = 1 + random.nextInt(10);
            for (int i = 0; i < times; i++) {
                tokens.add(at, pick("(", "[", "-", "not"));
            }
        }
    }

    private String spaced() {
        StringBuilder text = new StringBuilder(pick("", "", " ", "\n"));
        boolean tight = chance(2);
        for (String token : tokens) {
            char first = token.charAt(0);
            char last = text.length() == 0 ? ' ' : text.charAt(text.length() - 1);
            boolean apart = Character.isLetterOrDigit(first) && Character.isLetterOrDigit(last);
            if (apart && !chance(500) || !tight) {
                text.append(pick(" ", " ", " ", "\n", "  "));
            }
            text.append(token);
        }
        return text.append(pick("", " ", "\n")).toString();
    }
}
