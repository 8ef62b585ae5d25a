/** The language of the plans: its tokens, its errors, and what tests and sums answer. */
public final class LanguageTest {

    private static final String INSULTS_8 = "insult a;insult b;insult c;insult d;insult e;"
            + "insult f;insult g;insult h;";

    private LanguageTest() {
    }

    public static void main(String[] args) {
        tokens();
        grammar();
        depth();
        fourHundredTokens();
        errors2To5();
        firstErrorCounts();
        values();
        wrappingSums();
        comparisons();
        joinedTests();
        orders();
        aDayInItsTurns();
        Check.end();
    }

    private static void tokens() {
        Check.dueGood("");
        Check.dueGood(" \n \n");
        Check.dueGood("\n insult\na\n;\n\n");
        Check.dueGood("echo 12when day<=3and 4>=day;");
        Check.dueGood("insult abcdefghij;");
        Check.dueError("insult abcdefghijk;", 1, 7);
        Check.dueGood("echo 999999;echo 000007;");
        Check.dueError("echo 1000000;", 1, 5);
        Check.dueError("echo 0000007;", 1, 5);
        Check.dueError("insult a;\t", 1, 9);
        Check.dueError("insult a;\r\n", 1, 9);
        Check.dueError("insult A;", 1, 7);
        Check.dueError("insult aB;", 1, 8);
        Check.dueError("insult a\u00ff;", 1, 8);
        Check.dueError("insult a;\0", 1, 9);
        Check.dueError("echo 1 when day < = 3;", 1, 18);
        Check.dueError("echo 1 when day => 3;", 1, 17);
        Check.dueError("echo 1 when day == 3;", 1, 17);
        Check.dueError("echo 1 when day <> 3;", 1, 17);
        Check.dueError("echo 1whenday < 3;", 1, 6);
        Check.dueError("insulta;", 1, 0);
        Check.dueError("Insult a;", 1, 0);
    }

    private static void grammar() {
        Check.dueError("insult", 1, 6);
        Check.dueError("insult a", 1, 8);
        Check.dueError("insult a  ", 1, 10);
        Check.dueError("insult ;", 1, 7);
        Check.dueError("insult a b;", 1, 9);
        Check.dueError("insult hear;", 1, 7);
        Check.dueError("insult 7;", 1, 7);
        Check.dueError(";", 1, 0);
        Check.dueError("a;", 1, 0);
        Check.dueError("7;", 1, 0);
        Check.dueError("insult a;;", 1, 9);
        Check.dueError("hear of;", 1, 5);
        Check.dueError("hear 3;", 1, 5);
        Check.dueError("mock 3;", 1, 5);
        Check.dueError("hear ;", 1, 5);
        Check.dueError("mock ;", 1, 5);
        Check.dueError("hear when day = 1;", 1, 5);
        Check.dueError("echo count of;", 1, 13);
        Check.dueError("echo count of + 1;", 1, 14);
        Check.dueError("echo 1 when knows;", 1, 17);
        Check.dueError("echo 1 when knows and day = 1;", 1, 18);
        Check.dueError("mock not;", 1, 5);
        Check.dueError("insult a when day = 1;", 1, 9);
        Check.dueError("echo a;", 1, 5);
        Check.dueError("echo ;", 1, 5);
        Check.dueError("echo [1];", 1, 5);
        Check.dueError("echo 1 2;", 1, 7);
        Check.dueError("echo 1 +;", 1, 8);
        Check.dueError("echo +1;", 1, 5);
        Check.dueError("echo (1;", 1, 7);
        Check.dueError("echo 1);", 1, 6);
        Check.dueError("echo min(1);", 1, 10);
        Check.dueError("echo min 1, 2;", 1, 9);
        Check.dueError("echo max(1, 2, 3);", 1, 13);
        Check.dueError("echo count a;", 1, 11);
        Check.dueError("echo count of 3;", 1, 14);
        Check.dueError("echo 1 when ;", 1, 12);
        Check.dueError("echo 1 when day;", 1, 15);
        Check.dueError("echo 1 when (day < 1);", 1, 17);
        Check.dueError("echo 1 when [day];", 1, 16);
        Check.dueError("echo 1 when day < 1 < 2;", 1, 20);
        Check.dueError("echo 1 when [day < 1;", 1, 20);
        Check.dueError("echo 1 when not;", 1, 15);
        Check.dueError("echo 1 when knows 1;", 1, 18);
        Check.dueError("echo 1 when day < not 1;", 1, 18);
        Check.dueError("echo 1 when day < 1 or;", 1, 22);
        Check.dueError("echo 1 when and day < 1;", 1, 12);
        Check.dueError("echo 1 when day < 1 when day < 2;", 1, 20);
        Check.dueGood("echo 1 when not [(day) < 1 and not day < 2] or -1 < - - 1;");
    }

    private static void depth() {
        Check.dueGood("echo " + "(".repeat(8) + "1" + ")".repeat(8) + ";");
        Check.dueError("echo " + "(".repeat(9) + "1" + ")".repeat(9) + ";", 1, 13);
        Check.dueGood("echo " + "-".repeat(8) + "1;");
        Check.dueError("echo " + "-".repeat(9) + "1;", 1, 13);
        Check.dueGood("echo 1 when " + "not ".repeat(8) + "day<1;");
        Check.dueError("echo 1 when " + "not ".repeat(9) + "day<1;", 1, 44);
        Check.dueGood("echo 1 when " + "[".repeat(8) + "day<1" + "]".repeat(8) + ";");
        Check.dueError("echo 1 when " + "[".repeat(9) + "day<1" + "]".repeat(9) + ";", 1, 20);
        Check.dueGood("echo " + "min(".repeat(8) + "1" + ",1)".repeat(8) + ";");
        Check.dueError("echo " + "min(".repeat(9) + "1" + ",1)".repeat(9) + ";", 1, 40);
        Check.dueGood("echo 1 when not [ not [ -(-(1)) < 2 ] ];");
        Check.dueError("echo 1 when not [ not [ -(-(-(1))) < 2 ] ];", 1, 28);
        // What is closed does not count any more; a - between two products never does.
        Check.dueGood("echo " + "(1)+-1-".repeat(12) + "((((((((1))))))));");
        Check.dueGood("echo 1 when " + "not day<-1 and [day<1] or ".repeat(9)
                + "[[[[[[[[day<1]]]]]]]];");
        Check.dueGood("echo 1" + "-1".repeat(30) + ";");
        Check.dueError("echo " + "(".repeat(7) + "1-(-1)" + ")".repeat(7) + ";", 1, 15);
    }

    private static void fourHundredTokens() {
        // Each line has 25 tokens: echo, twelve ones, eleven times a +, and the semicolon.
        String line = "echo 1" + "+1".repeat(11) + ";";
        Check.dueGood(line.repeat(16) + "\n ");
        Check.dueError(line.repeat(16) + " insult a;", 1, line.length() * 16 + 1);
        Check.dueError(line.repeat(16) + "!", 1, line.length() * 16);
        String many = "echo 1" + "+1".repeat(199);
        Check.dueError(many + ";", 1, many.length());
        Check.dueError(many, 1, many.length());
        Check.dueError("echo 1" + "+1".repeat(198) + ";;", 1, 403);
        Check.dueError("echo 1" + "+1".repeat(198) + "; hear", 1, 408);
    }

    private static void errors2To5() {
        Check.dueError("insult ab;insult b; insult ab;", 2, 27);
        Check.dueError("mock a;insult a;", 3, 5);
        Check.dueError("insult ab; mock a;", 3, 16);
        Check.dueError("insult ab; mock abc;", 3, 16);
        Check.dueError("insult a; mock a1;", 3, 15);
        Check.dueError("insult a; echo count of b;", 3, 24);
        Check.dueError("insult a; echo place of b;", 3, 24);
        Check.dueError("insult a; echo 1 when knows b;", 3, 28);
        Check.dueError("insult b; hear a; mock a;", 3, 23);
        Check.dueGood(INSULTS_8);
        Check.dueError(INSULTS_8 + "insult i;", 4, 79);
        Check.dueError(INSULTS_8 + "insult a;", 2, 79);
        Check.dueError(INSULTS_8 + "insult i1;", 4, 79);
        Check.dueGood("hear a;".repeat(16) + "insult a;");
        Check.dueError("hear a;".repeat(16) + "insult a; mock a;", 4, 122);
        Check.dueError("hear a;".repeat(16) + "hear a1;", 4, 112);
        Check.dueError("forget 1;".repeat(17), 4, 144);
        Check.dueError("insult a1;", 5, 7);
        Check.dueError("hear abc2d;", 5, 5);
        Check.dueError("insult a1; insult a1;", 5, 7);
    }

    private static void firstErrorCounts() {
        Check.dueError("hear a1; mock b;", 5, 5);
        Check.dueError("mock b; hear a1;", 3, 5);
        Check.dueError("echo count of x + count of y;", 3, 14);
        Check.dueError("hear a1; mock b", 1, 15);
        Check.dueError("hear a1; mock b; ?", 1, 17);
        Check.dueError("hear a;".repeat(17) + "insult ;", 1, 126);
    }

    /** What a sum answers, as a test finds it; the letters are banana in the day 3. */
    private static void dueSum(String sum, int want) {
        String due = want < 0 ? "0-" + -(long) want : String.valueOf(want);
        ParrotSquawks parrot = Check.taught("insult an; insult q; insult banana;"
                + "hear z when " + sum + " = " + due + ";");
        parrot.passDays(3);
        // What the first three days left there goes away; there has to be something to forget.
        parrot.forget(parrot.hear(1));
        Check.hear(parrot, "banana");
        Check.due("carried out for " + sum, parrot.passDays(1), 1);
    }

    private static void values() {
        dueSum("7", 7);
        dueSum("007", 7);
        dueSum("day", 3);
        dueSum("length", 6);
        dueSum("longest", 3);
        dueSum("kinds", 15);
        dueSum("count of an", 2);
        dueSum("place of an", 1);
        dueSum("count of q", 0);
        dueSum("place of q", -1);
        dueSum("place of banana", 0);
        dueSum("-day", -3);
        dueSum("--day", 3);
        dueSum("-day+5", 2);
        dueSum("-2*3", -6);
        dueSum("2+3*4", 14);
        dueSum("(2+3)*4", 20);
        dueSum("10-4-3", 3);
        dueSum("10-(4-3)", 9);
        dueSum("100/5/2", 10);
        dueSum("100/5*2", 40);
        dueSum("7/2", 3);
        dueSum("-7/2", -3);
        dueSum("7/-2", -3);
        dueSum("7/0", 0);
        dueSum("0/0", 0);
        dueSum("7/(day-3)+1", 1);
        dueSum("min(2,3)", 2);
        dueSum("min(3,2)", 2);
        dueSum("max(2,3)", 3);
        dueSum("max(-3,-2)", -2);
        dueSum("max(min(1,5),min(7,4))*2", 8);
        dueSum("1-max(2,3-4*5/(6-1))+7", 6);
    }

    /** For numbers that no number of the language tells: whether a test of them holds. */
    private static void dueTest(String test, boolean holds) {
        ParrotSquawks parrot = Check.taught("insult ab; insult c; hear z when " + test + ";");
        Check.hear(parrot, "abab");
        Check.due("carried out for " + test, parrot.passDays(1), holds ? 1 : 0);
    }

    private static void wrappingSums() {
        // 65536 * 32768 is 2 to the 31, which is the smallest number.
        String smallest = "(65536*32768)";
        dueTest(smallest + " < 0", true);
        dueTest(smallest + " - 1 > 0", true);
        dueTest("-" + smallest + " = " + smallest, true);
        dueTest(smallest + " / -1 = " + smallest, true);
        dueTest(smallest + " / 2 = -1*32768*32768", true);
        dueTest("65536*65536 = 0", true);
        // 999999 * 999999 = 999998000001, in 32 bits -729379967 + 4294967296 * 233.
        dueTest("999999*999999 = -((729*999999)+(380696))", true);
        dueTest(smallest + " - 1 + 1 = " + smallest, true);
        dueTest(smallest + " < " + smallest + " - 1", true);
    }

    private static void comparisons() {
        String[] signs = {"<", ">", "=", "<=", ">="};
        boolean[] less = {true, false, false, true, false};
        boolean[] same = {false, false, true, true, true};
        boolean[] more = {false, true, false, false, true};
        for (int i = 0; i < signs.length; i++) {
            dueTest("1" + signs[i] + "2", less[i]);
            dueTest("2" + signs[i] + "2", same[i]);
            dueTest("3" + signs[i] + "2", more[i]);
            dueTest("-5" + signs[i] + "4", less[i]);
        }
        dueTest("knows ab", true);
        dueTest("knows c", false);
    }

    private static void joinedTests() {
        String yes = "1<2";
        String no = "2<1";
        dueTest(yes + " and " + yes, true);
        dueTest(yes + " and " + no, false);
        dueTest(no + " and " + yes, false);
        dueTest(no + " or " + yes, true);
        dueTest(yes + " or " + no, true);
        dueTest(no + " or " + no, false);
        dueTest("not " + no, true);
        dueTest("not " + yes, false);
        dueTest("not not " + yes, true);
        dueTest("not knows c and knows ab", true);
        // and binds more than or, and not more than and.
        dueTest(yes + " or " + yes + " and " + no, true);
        dueTest(no + " and " + no + " or " + yes, true);
        dueTest("[" + yes + " or " + yes + "] and " + no, false);
        dueTest("not " + no + " and " + no, false);
        dueTest("not " + yes + " or " + yes, true);
        dueTest("not [" + no + " and " + no + "]", true);
        dueTest("not [" + yes + " or " + yes + "]", false);
    }

    private static void orders() {
        ParrotSquawks parrot = Check.taught("insult abc; echo 2; mock abc; echo 2; hear de;"
                + "forget 3; echo -1; forget -1; echo 0; forget 0;");
        Check.due("carried out", parrot.passDays(1), 4);
        Check.dueLetters("behind the day", parrot, "bcde");
        ParrotSquawks greedy = Check.taught("hear ab; echo 1000; echo 999999*2000; forget 3;");
        Check.due("carried out", greedy.passDays(1), 4);
        Check.dueLetters("as many as there are:", greedy, "babab");
        ParrotSquawks forgetful = Check.taught("hear ab; forget 1000; forget 1; echo 1;");
        Check.due("carried out", forgetful.passDays(1), 2);
        Check.due("length()", forgetful.length(), 0);
        ParrotSquawks full = Check.taught("hear abcdefghij; hear klmnopqrst; hear uvwxyzabcd;"
                + "hear efghijklmn; hear opq; echo 39;");
        Check.due("carried out", full.passDays(1), 6);
        // 39 were heard again behind the last one of the 40.
        Check.dueLetters("behind the day", full, "qefghijklmnopqrstuvwxyzabcdefghijklmnopq");
    }

    private static void aDayInItsTurns() {
        ParrotSquawks parrot = Check.taught("insult ab; hear b when knows ab; hear ab;"
                + "hear c when knows ab and day = 0; forget 1 when length = 3;");
        Check.due("tests hold as they come to their turns", parrot.passDays(1), 3);
        Check.dueLetters("behind the day", parrot, "bc");
        // An insult may stand behind an order, and hearing its name needs no insult.
        ParrotSquawks late = Check.taught("hear ab; insult ab; echo count of ab + 1;");
        Check.due("carried out", late.passDays(2), 4);
        Check.dueLetters("behind the days", late, "ababababab");
        // All of a test that is as deep and as wide as can be.
        String deep = "0<1 or 0<1 and 1<min(1,1+1*min(1,1+1*min(1,1+1*min(1,1+1*min(1,1+1*"
                + "min(1,1+1*min(1,1+1*min(1,5))))))))+1";
        dueTest(deep, true);
        dueTest("1<0 or 0<1 and [0<1 and [0<1 and [0<1 and [0<1 and [1<0 or 0<1 and [0<1 and "
                + "0+1*(0+1*2)=2]]]]]]", true);
    }
}
