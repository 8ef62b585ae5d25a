import java.util.ArrayList;
import java.util.List;

/** The boundary cases of the grammar, the depth, the 400 tokens, and the errors 1 to 5. */
public final class BoundaryErrorsTest {

    private BoundaryErrorsTest() {
    }

    public static void main(String[] args) {
        anyNumberOfTimes();
        orNothing();
        endOfTheTape();
        firstWrongToken();
        tokensThatAreMissing();
        byteWithWhichNoTokenBegins();
        tooLongWordOrNumber();
        depthIs0AtTheBeginning();
        depthAtMost8();
        depthBetweenBrackets();
        depthBehindMinusAndNot();
        theTokenThatWouldBeThe401st();
        onlyIfThereIsNoError1();
        error2();
        error3();
        error3ToldAhead();
        error4Insults();
        error4Orders();
        error5();
        smallestOfErrorsAtOneToken();
        fromLeftToRight();
        insultsAndOrdersAreNumberedFrom0();
        Check.end();
    }

    private static String insults(int howMany) {
        StringBuilder plan = new StringBuilder();
        for (int i = 0; i < howMany; i++) {
            plan.append("insult ").append((char) ('a' + i)).append(';');
        }
        return plan.toString();
    }

    // ---- the grammar

    private static void anyNumberOfTimes() {
        Check.sentence("{ x } any number of times, also none");
        for (int times = 0; times <= 60; times++) {
            Check.dueGood("hear a;".repeat(Math.min(times, 16)));
            Check.dueGood("echo 1" + "+2".repeat(times) + ";");
            Check.dueGood("echo 1" + "-2".repeat(times) + ";");
            Check.dueGood("echo 1" + "*2".repeat(times) + ";");
            Check.dueGood("echo 1" + "/2".repeat(times) + ";");
            Check.dueGood("echo 1 when 1<2" + " and 1<2".repeat(times) + ";");
            Check.dueGood("echo 1 when 1<2" + " or 1<2".repeat(times) + ";");
        }
        // As many as 400 tokens hold.
        Check.dueGood("echo 1" + "+2".repeat(198) + ";");
        Check.dueGood("echo 1" + "/2".repeat(198) + ";");
        Check.dueGood("echo 1 when 1<2" + " and 1<2".repeat(98) + ";");
        Check.dueGood("echo 1 when 1<2" + " or 1<2".repeat(98) + ";");
    }

    private static void orNothing() {
        Check.sentence("[ x ] means x or nothing");
        Check.dueGood("hear a;");
        Check.dueGood("hear a when 1<2;");
        Check.dueError("hear a when 1<2 when 1<2;", 1, 16);
        Check.dueError("hear a when;", 1, 11);
        Check.dueError("insult a when 1<2;", 1, 9);
    }

    private static final String[] WHOLE = {"insult", "a", ";", "hear", "b", "when", "not", "[",
        "knows", "a", "or", "day", "<=", "-", "length", "]", "and", "longest", ">=", "kinds", ";",
        "mock", "a", "when", "1", "<", "2", ";", "forget", "(", "count", "of", "a", "+", "place",
        "of", "a", ")", "*", "2", ";", "echo", "min", "(", "1", ",", "max", "(", "2", ",", "3",
        ")", ")", "/", "4", "when", "1", "=", "2", "or", "3", ">", "4", ";"};

    private static String joined(int tokens) {
        StringBuilder plan = new StringBuilder();
        for (int i = 0; i < tokens; i++) {
            plan.append(WHOLE[i]).append(' ');
        }
        return plan.toString();
    }

    private static void endOfTheTape() {
        Check.sentence("Error 1: This includes the end of the tape (at its length)");
        for (int tokens = 0; tokens <= WHOLE.length; tokens++) {
            boolean whole = tokens == 0 || WHOLE[tokens - 1].equals(";");
            String plan = joined(tokens);
            String bare = plan.isEmpty() ? "" : plan.substring(0, plan.length() - 1);
            for (String tape : new String[] {bare, bare + " ", bare + "\n", bare + " \n  "}) {
                Check.dueError(tape, whole ? 0 : 1, whole ? -1 : tape.length());
            }
        }
    }

    private static void firstWrongToken() {
        Check.sentence("Error 1: the first token with which the tokens so far are not the "
                + "beginning of a plan; the position is that of its first byte");
        for (int tokens = 0; tokens < WHOLE.length; tokens++) {
            String front = joined(tokens);
            boolean lineBegins = tokens == 0 || WHOLE[tokens - 1].equals(";");
            String wrong = lineBegins ? "and" : "insult";
            Check.dueError(front + wrong, 1, front.length());
            Check.dueError(front + wrong + " ? ;", 1, front.length());
        }
        Check.dueError("echo 1 <= 1;", 1, 7);
        Check.dueError("echo 1 ; >= ;", 1, 9);
        Check.dueError("hear a hear a;", 1, 7);
        Check.dueError("hear a; b; ?", 1, 8);
    }

    private static void tokensThatAreMissing() {
        Check.sentence("Error 1: the first token with which the tokens so far are not the "
                + "beginning of a plan: where another one is missing");
        Check.dueError("insult ;", 1, 7);
        Check.dueError("hear ;", 1, 5);
        Check.dueError("mock ;", 1, 5);
        Check.dueError("echo ;", 1, 5);
        Check.dueError("forget when 1<2;", 1, 7);
        Check.dueError("hear when 1<2;", 1, 5);
        Check.dueError(";", 1, 0);
        Check.dueError("hear a;;", 1, 7);
        for (String sign : new String[] {"+", "-", "*", "/"}) {
            Check.dueError("echo 1" + sign + ";", 1, 7);
            Check.dueError("echo 1" + sign + "+2;", 1, 7);
            Check.dueError("echo 1" + sign + "*2;", 1, 7);
            Check.dueError("echo 1" + sign + "/2;", 1, 7);
            Check.dueError("echo 1" + sign + "*2*2;", 1, 7);
            Check.dueGood("echo 1" + sign + "-2;");
        }
        Check.dueError("echo +1;", 1, 5);
        Check.dueError("echo *1;", 1, 5);
        Check.dueError("echo ();", 1, 6);
        Check.dueError("echo (1;", 1, 7);
        Check.dueError("echo 1);", 1, 6);
        Check.dueError("echo min 1,2);", 1, 9);
        Check.dueError("echo min(,2);", 1, 9);
        Check.dueError("echo min(1);", 1, 10);
        Check.dueError("echo min(1,);", 1, 11);
        Check.dueError("echo min(1,2;", 1, 12);
        Check.dueError("echo min(1,2,3);", 1, 12);
        Check.dueError("echo count a;", 1, 11);
        Check.dueError("echo place of;", 1, 13);
        Check.dueError("echo 1 when ;", 1, 12);
        Check.dueError("echo 1 when 2;", 1, 13);
        Check.dueError("echo 1 when 2<;", 1, 14);
        Check.dueError("echo 1 when <2;", 1, 12);
        Check.dueError("echo 1 when 1<2<3;", 1, 15);
        Check.dueError("echo 1 when not;", 1, 15);
        Check.dueError("echo 1 when knows;", 1, 17);
        Check.dueError("echo 1 when 1<2 and;", 1, 19);
        Check.dueError("echo 1 when or 1<2;", 1, 12);
        Check.dueError("echo 1 when 1<2 or or 1<2;", 1, 19);
        Check.dueError("echo 1 when 1<2 and and 1<2;", 1, 20);
        Check.dueError("echo 1 when [1<2;", 1, 16);
        Check.dueError("echo 1 when [];", 1, 13);
        Check.dueError("echo 1 when 1<2];", 1, 15);
        Check.dueError("echo 1 when (1<2);", 1, 14);
        Check.dueError("echo 1 when [1]<2;", 1, 14);
    }

    private static void byteWithWhichNoTokenBegins() {
        Check.sentence("Error 1: This includes a byte with which no token begins");
        char[] signs = {0, 9, 11, 13, 31, 33, 39, '.', ':', '?', '@', 'A', 'Z', '\\', '^', '`',
            '{', 127, 128, 255};
        for (char sign : signs) {
            for (int tokens = 0; tokens <= WHOLE.length; tokens++) {
                String front = joined(tokens);
                Check.dueError(front + sign + " ;", 1, front.length());
            }
            Check.dueError("hear a" + sign + ";", 1, 6);
            Check.dueError("hear " + sign + "a;", 1, 5);
        }
    }

    private static void tooLongWordOrNumber() {
        Check.sentence("Error 1: This includes a word or number that is too long");
        Check.dueGood("hear abcdefghi;");
        Check.dueGood("hear abcdefghij;");
        Check.dueError("hear abcdefghijk;", 1, 5);
        Check.dueError("hear a; abcdefghijk", 1, 8);
        Check.dueError("hear a; hearhearhear b;", 1, 8);
        Check.dueGood("echo 12345;");
        Check.dueGood("echo 123456;");
        Check.dueError("echo 1234567;", 1, 5);
        Check.dueError("echo 1+ 1234567;", 1, 8);
        Check.dueError("echo 1 when day<0000000;", 1, 16);
        // Where an error 1 stands ahead of it, that is the first one.
        Check.dueError("hear 1 abcdefghijk;", 1, 5);
    }

    // ---- the depth

    private static void depthIs0AtTheBeginning() {
        Check.sentence("Depth. It is 0 at the beginning");
        for (int left = 0; left <= 9; left++) {
            ParrotSquawks parrot = new ParrotSquawks();
            // What is left open by a plan with an error does not count for the next one.
            Check.due("teach()", Check.teach(parrot, "echo " + "(".repeat(left)), 1);
            Check.due("eight deep", Check.teach(parrot, "echo ((((((((1))))))));"), 0);
            Check.due("teach()", Check.teach(parrot, "echo 1 when " + "[".repeat(left)), 1);
            Check.due("eight deep", Check.teach(parrot, "echo --------1;"), 0);
            Check.due("nine deep", Check.teach(parrot, "echo ---------1;"), 1);
            Check.due("errorAt()", parrot.errorAt(), 13);
        }
    }

    private static void depthAtMost8() {
        Check.sentence("Depth. It may be at most 8; Error 1 includes the (, [, - or not behind "
                + "which the depth would be 9");
        String[] openers = {"(", "min(", "max(1,", "-"};
        String[] closers = {")", ",1)", ")", ""};
        for (int i = 0; i < openers.length; i++) {
            dueDeep("echo ", openers[i], "1", closers[i], ";");
            dueDeep("echo 2*", openers[i], "day", closers[i], ";");
            dueDeep("echo 1 when 1<", openers[i], "1", closers[i], ";");
        }
        dueDeep("echo 1 when ", "[", "1<2", "]", ";");
        dueDeep("echo 1 when ", "not ", "1<2", "", ";");
        dueDeep("echo 1 when 1<2 and ", "not ", "1<2", "", ";");
        dueMixed();
    }

    /** Seven and eight are good; the ninth opener is the wrong token, at its symbol. */
    private static void dueDeep(String front, String opener, String core, String closer,
            String back) {
        int symbol = Math.max(0, opener.indexOf('('));
        for (int depth = 0; depth <= 12; depth++) {
            String plan = front + opener.repeat(depth) + core + closer.repeat(depth) + back;
            int at = front.length() + 8 * opener.length() + symbol;
            Check.dueError(plan, depth <= 8 ? 0 : 1, depth <= 8 ? -1 : at);
        }
    }

    private static void dueMixed() {
        String front = "echo 1 when not [not [-(-min(";
        String back = ",1)) < 2]]";
        Check.dueGood(front + "1" + back + ";");
        for (String one : new String[] {"(1)", "-1"}) {
            Check.dueError(front + one + back + ";", 1, front.length());
        }
        Check.dueError(front + "min(1,1)" + back + ";", 1, front.length() + 3);
        Check.dueGood(front + "1-1" + back + ";");
    }

    private static void depthBetweenBrackets() {
        Check.sentence("Depth. 1 greater between a ( and its ), a [ and its ]");
        String eight = "((((((((1))))))))";
        String nine = "(" + eight + ")";
        for (int before = 0; before <= 20; before++) {
            String front = "echo " + "(1)+".repeat(before);
            Check.dueGood(front + eight + ";");
            Check.dueError(front + nine + ";", 1, front.length() + 8);
            front = "echo " + "min(1,2)*".repeat(before);
            Check.dueGood(front + eight + ";");
            Check.dueError(front + nine + ";", 1, front.length() + 8);
            front = "echo 1 when " + "[1<2] and ".repeat(before);
            Check.dueGood(front + "[[[[[[[[1<2]]]]]]]];");
            Check.dueError(front + "[[[[[[[[[1<2]]]]]]]]];", 1, front.length() + 8);
        }
        // Both sums of min and max stand one deeper, and no deeper.
        String seven = "(((((((1)))))))";
        Check.dueGood("echo min(" + seven + "," + seven + ");");
        Check.dueError("echo max(" + eight + "," + seven + ");", 1, 16);
        Check.dueError("echo max(" + seven + "," + eight + ");", 1, 32);
        Check.dueGood("echo min(1,2)+" + eight + ";");
        // An order begins at the depth 0.
        Check.dueGood(("echo " + eight + ";").repeat(16));
    }

    private static void depthBehindMinusAndNot() {
        Check.sentence("Depth. 1 greater behind a - in front (of a value) for what it turns, "
                + "and behind a not for what it turns");
        String eight = "((((((((1))))))))";
        for (int before = 0; before <= 20; before++) {
            String front = "echo " + "-1+".repeat(before);
            Check.dueGood(front + eight + ";");
            Check.dueError(front + "-" + eight + ";", 1, front.length() + 8);
            Check.dueGood(front + "1-" + eight + ";");
            front = "echo 1 when " + "not 1<2 or ".repeat(before);
            Check.dueGood(front + "[[[[[[[[1<2]]]]]]]];");
            Check.dueError(front + "not [[[[[[[[1<2]]]]]]]];", 1, front.length() + 11);
            Check.dueGood(front + eight + "<" + eight + ";");
            // Both sums of a comparison are what a not turns.
            Check.dueGood(front + "not (((((((1)))))))<(((((((1)))))));");
            Check.dueError(front + "not " + eight + "<1;", 1, front.length() + 11);
            Check.dueError(front + "not 1<" + eight + ";", 1, front.length() + 13);
        }
        Check.dueGood("echo --------1*--------1;");
        Check.dueError("echo --------1*---------1;", 1, 23);
    }

    // ---- the 400 tokens

    private static void theTokenThatWouldBeThe401st() {
        Check.sentence("Error 1: This includes the token that would be the 401st (the end of the "
                + "tape not counted)");
        String tokens399 = "echo 1" + "+1".repeat(198) + ";";
        String tokens400 = "echo -1" + "+1".repeat(198) + ";";
        String tokens401 = "echo 1" + "+1".repeat(199) + ";";
        for (String blanks : new String[] {"", " ", "\n\n"}) {
            Check.dueGood(tokens399 + blanks);
            Check.dueGood(tokens400 + blanks);
            Check.dueError(tokens399 + blanks + ";", 1, tokens399.length() + blanks.length());
            Check.dueError(tokens400 + blanks + ";", 1, tokens400.length() + blanks.length());
            Check.dueError(tokens400 + blanks + "hear", 1, tokens400.length() + blanks.length());
            Check.dueError(tokens400 + blanks + "?", 1, tokens400.length() + blanks.length());
            // One more line could follow 399 tokens, but not its second one.
            int next = tokens399.length() + blanks.length();
            Check.dueError(tokens399 + blanks + "hear", 1, next + 4);
            Check.dueError(tokens399 + blanks + "hear a", 1, next + 5);
            Check.dueError(tokens399 + blanks + "hear ?", 1, next + 5);
        }
        Check.dueError(tokens401, 1, tokens401.length() - 1);
        String bare401 = tokens401.substring(0, tokens401.length() - 1);
        Check.dueError(bare401, 1, bare401.length());
        Check.dueError(bare401 + " \n", 1, bare401.length() + 2);
        Check.dueError(bare401 + "+", 1, bare401.length());
        // The first wrong token stands ahead of the 401st.
        Check.dueError("echo 1 2" + "+1".repeat(300), 1, 7);
        Check.dueError("echo 1" + "+1".repeat(197) + "+;" + ";".repeat(50), 1, 401);
    }

    // ---- the errors 2 to 5

    private static void onlyIfThereIsNoError1() {
        Check.sentence("Only if there is no error 1, keywords, names and numbers are looked at");
        String[] plans = {"insult a; insult a;", "mock a;", insults(9), "hear a;".repeat(17),
            "hear a1;"};
        int[] errors = {2, 3, 4, 4, 5};
        int[] places = {17, 5, 79, 112, 5};
        for (int i = 0; i < plans.length; i++) {
            String plan = plans[i];
            Check.dueError(plan, errors[i], places[i]);
            Check.dueError(plan + " \n", errors[i], places[i]);
            Check.dueError(plan + "hear b", 1, plan.length() + 6);
            Check.dueError(plan + "?", 1, plan.length());
            Check.dueError(plan + "hear abcdefghijk;", 1, plan.length() + 5);
            Check.dueError(plan + "echo 1234567;", 1, plan.length() + 5);
            Check.dueError(plan + "echo (((((((((1)))))))));", 1, plan.length() + 13);
            Check.dueError(plan + "echo 1" + "+1".repeat(199) + ";", 1, at401(plan));
            Check.dueError(plan.substring(0, plan.length() - 1), 1, plan.length() - 1);
        }
    }

    /** Behind this plan, all of whose tokens but its symbols stand apart, and echo 1 +1 +1 .. */
    private static int at401(String plan) {
        int tokens = 0;
        for (int i = 0; i < plan.length(); i++) {
            boolean begins = plan.charAt(i) != ' ' && (plan.charAt(i) == ';' || i == 0
                    || plan.charAt(i - 1) == ' ' || plan.charAt(i - 1) == ';');
            tokens += begins ? 1 : 0;
        }
        // The word echo is the next token, and each one behind it is one byte.
        return plan.length() + 5 + 400 - tokens - 1;
    }

    private static void error2() {
        Check.sentence("Error 2: the name behind insult is that of an insult told ahead");
        Check.dueError("insult ab; insult ab;", 2, 18);
        Check.dueGood("insult ab; insult a;");
        Check.dueGood("insult ab; insult abc;");
        Check.dueGood("insult ab; insult ac;");
        Check.dueGood("insult ab; insult bb;");
        Check.dueGood("insult ab; insult ba;");
        Check.dueError("insult abcdefghij; insult abcdefghij;", 2, 26);
        Check.dueGood("insult abcdefghij; insult abcdefghik;");
        Check.dueGood("insult abcdefghij; insult abcdefghi;");
        Check.dueGood("insult abcdefghij; insult bbcdefghij;");
        Check.dueError("insult a; hear b; insult c; insult a;", 2, 35);
        // What is told behind hear is no insult.
        Check.dueGood("hear a; insult a;");
        Check.dueError(insults(7) + "insult a;", 2, 70);
        Check.dueError(insults(7) + "insult g;", 2, 70);
        Check.dueGood(insults(7) + "insult h;");
    }

    private static final String[] NAMED = {"mock ", "echo count of ", "forget 1+place of ",
        "echo 1 when knows ", "hear x when not knows ", "hear x when 1<count of "};

    private static void error3() {
        Check.sentence("Error 3: a name, but that behind insult or hear, is not that of an insult "
                + "told ahead");
        for (String named : NAMED) {
            String front = "insult ab; insult cde;" + named;
            Check.dueGood(front + "ab;");
            Check.dueGood(front + "cde;");
            for (String other : new String[] {"a", "b", "abc", "bb", "ac", "cd", "cdef", "ba",
                "de", "x", "ab0", "a0", "abcdefghij"}) {
                Check.dueError(front + other + ";", 3, front.length());
            }
        }
        // The name behind insult or hear need not be that of an insult.
        Check.dueGood("hear q;");
        Check.dueGood("insult q;");
        Check.dueGood("insult ab; hear ab; hear abc;");
    }

    private static void error3ToldAhead() {
        Check.sentence("Error 3: not that of an insult told ahead");
        for (String named : NAMED) {
            Check.dueGood("insult ab;" + named + "ab;");
            Check.dueError(named + "ab; insult ab;", 3, named.length());
            Check.dueError("hear ab;" + named + "ab;", 3, 8 + named.length());
            Check.dueGood(insults(8) + named + "a;");
            Check.dueGood(insults(8) + named + "h;");
            Check.dueError(insults(8) + named + "i;", 3, 72 + named.length());
            Check.dueError(insults(7) + named + "h; insult h;", 3, 63 + named.length());
        }
    }

    private static void error4Insults() {
        Check.sentence("Error 4: the name of the 9th insult");
        Check.dueGood(insults(7));
        Check.dueGood(insults(8));
        Check.dueError(insults(9), 4, 79);
        Check.dueError(insults(10), 4, 79);
        Check.dueError(insults(26), 4, 79);
        Check.dueError(insults(8) + "insult  abcdefghij;", 4, 80);
        Check.dueGood("hear a;".repeat(16) + insults(8));
        Check.dueError("hear a;".repeat(16) + insults(9), 4, 112 + 79);
        Check.due("insults()", Check.taught(insults(8)).insults(), 8);
    }

    private static void error4Orders() {
        Check.sentence("Error 4: the first word of the 17th order");
        String[] orders = {"hear b;", "mock a;", "echo 1;", "forget 1;", "hear b when 1<2;"};
        for (String order : orders) {
            Check.dueGood("insult a;" + order.repeat(15));
            Check.dueGood("insult a;" + order.repeat(16));
            int at = 9 + order.length() * 16;
            Check.dueError("insult a;" + order.repeat(17), 4, at);
            Check.dueError("insult a;" + order.repeat(18), 4, at);
            Check.dueError("insult a;" + order.repeat(16) + "\n" + order, 4, at + 1);
            // Insults are no orders.
            Check.dueGood(insults(4) + order.repeat(16) + "insult x;insult y;");
        }
        ParrotSquawks parrot = Check.taught("hear a;".repeat(16));
        Check.due("passDays(1) of 16 orders", parrot.passDays(1), 16);
    }

    private static void error5() {
        Check.sentence("Error 5: the name behind insult or hear has a digit");
        for (String front : new String[] {"insult ", "hear "}) {
            Check.dueGood(front + "abcdefghij;");
            for (int at = 1; at < 10; at++) {
                for (char digit = '0'; digit <= '9'; digit++) {
                    String name = "abcdefghij".substring(0, at) + digit
                            + "abcdefghij".substring(at + 1);
                    Check.dueError(front + name + ";", 5, front.length());
                    Check.dueError(front + name.substring(0, at + 1) + ";", 5, front.length());
                }
            }
        }
        Check.dueError("hear a; hear b; hear c0;", 5, 21);
        Check.dueError("insult a; insult b2;", 5, 17);
        // Elsewhere a name with a digit is one of no insult.
        Check.dueError("insult a; mock a0;", 3, 15);
    }

    private static void smallestOfErrorsAtOneToken() {
        Check.sentence("of errors at one token the one with the smallest number");
        Check.dueError(insults(8) + "insult a;", 2, 79);
        Check.dueError(insults(8) + "insult h;", 2, 79);
        Check.dueError(insults(8) + "insult i;", 4, 79);
        Check.dueError(insults(8) + "insult i0;", 4, 79);
        Check.dueError(insults(8) + "insult a0;", 4, 79);
        Check.dueError(insults(7) + "insult a0;", 5, 70);
    }

    private static void fromLeftToRight() {
        Check.sentence("looked at from left to right, and the first error is told, at its token");
        String orders16 = "hear x;".repeat(16);
        List<String> wrong = new ArrayList<>();
        // Each of these behind eight insults and sixteen orders, with its error and its place.
        wrong.add("insult a;");
        wrong.add("insult i;");
        wrong.add("hear x;");
        wrong.add("mock q;");
        int[] errors = {2, 4, 4, 4};
        int[] places = {7, 7, 0, 0};
        for (int i = 0; i < wrong.size(); i++) {
            for (String behind : wrong) {
                String front = insults(8) + orders16;
                Check.dueError(front + wrong.get(i) + behind, errors[i],
                        front.length() + places[i]);
            }
        }
        Check.dueError("hear a1; insult b; insult b;", 5, 5);
        Check.dueError("hear a1; mock c;", 5, 5);
        Check.dueError("insult a1; insult a1;", 5, 7);
        Check.dueError("mock c; hear a1;", 3, 5);
        Check.dueError("mock c; insult b; insult b;", 3, 5);
        Check.dueError("insult b; insult b; mock c;", 2, 17);
        Check.dueError("echo count of p + place of q when knows r;", 3, 14);
        Check.dueError("insult p; echo count of p + place of q when knows r;", 3, 37);
        Check.dueError("insult p; echo count of p + place of p when knows r;", 3, 50);
        Check.dueError("hear a1 when knows r;", 5, 5);
        Check.dueError(insults(8) + "mock i; insult i;", 3, 77);
        Check.dueError(insults(9) + "mock i;", 4, 79);
    }

    private static void insultsAndOrdersAreNumberedFrom0() {
        Check.sentence("Insults and orders are numbered from 0, in the order in which they are "
                + "told; the letters of an insult are those of its name");
        ParrotSquawks parrot = Check.taught("insult b; hear x; insult abc; mock b; insult za;");
        int[] letters = {1, 3, 2};
        for (int insult = 0; insult < 3; insult++) {
            Check.due("lettersOf(" + insult + ")", parrot.lettersOf(insult), letters[insult]);
        }
        Check.dueNoPlace("lettersOf(-1)", () -> parrot.lettersOf(-1));
        Check.dueNoPlace("lettersOf(3)", () -> parrot.lettersOf(3));
        parrot.mock(2);
        parrot.mock(0);
        parrot.mock(1);
        Check.dueLetters("behind the three insults", parrot, "zababc");
        parrot.passDays(1);
        Check.dueLetters("behind the orders", parrot, "zababcxb");
        for (int insult = 0; insult < 8; insult++) {
            char name = (char) ('a' + insult);
            ParrotSquawks mocking = Check.taught(insults(8) + "mock " + name + ";");
            mocking.mock(insult);
            mocking.passDays(1);
            Check.dueLetters("the insult " + insult + ", by hand and by an order:", mocking,
                    "" + name + name);
        }
    }
}
