/** The boundary cases of what is remembered: 40 letters, echoing, forgetting, and the days. */
public final class BoundaryMemoryTest {

    private static final String MAX = "(65536*32768-1)";
    private static final String MIN = "(65536*32768)";
    // Forty letters, the first of which comes only once.
    private static final String FULL = "zabcdefghijklmnopqrstuvwxyabcdefghijklmn";

    private BoundaryMemoryTest() {
    }

    public static void main(String[] args) {
        noneAtFirst();
        at40ByHearing();
        at40ByMocking();
        at40ByEchoing();
        at40ByOrders();
        wordsAreHeardLetterByLetter();
        echoingByOrders();
        thoseThatStoodThereAsItBegan();
        forgettingByOrders();
        carriedOutIfAtLeastOneLetter();
        testOrNone();
        theDayIsOneGreater();
        valuesOfTests();
        bothSidesOfAndAndOr();
        testsAsTheyComeToTheirTurns();
        carriedOutInAll();
        Check.end();
    }

    private static String tail(String letters) {
        return letters.substring(Math.max(0, letters.length() - 40));
    }

    private static void noneAtFirst() {
        Check.sentence("It remembers at most 40 letters; none, at first");
        ParrotSquawks parrot = new ParrotSquawks();
        Check.due("length()", parrot.length(), 0);
        Check.due("kinds()", parrot.kinds(), 0);
        Check.dueNoPlace("letterAt(0)", () -> parrot.letterAt(0));
        Check.due("hear(1)", parrot.hear(1), 1);
        Check.due("letterAt(0)", parrot.letterAt(0), 1);
        Check.dueNoPlace("letterAt(1)", () -> parrot.letterAt(1));
    }

    private static void at40ByHearing() {
        Check.sentence("as one is heard with 40 there, the first one is forgotten, and all others "
                + "are one place farther ahead");
        for (int before = 37; before <= 40; before++) {
            ParrotSquawks parrot = Check.heard(FULL.substring(0, before));
            Check.due("hear(26) with " + before, parrot.hear(26), Math.min(40, before + 1));
            Check.dueLetters("behind it", parrot, tail(FULL.substring(0, before) + "z"));
        }
        String all = FULL + FULL + FULL;
        for (int i = 0; i <= all.length(); i++) {
            ParrotSquawks parrot = Check.heard(all.substring(0, i));
            Check.due("length()", parrot.length(), Math.min(40, i));
            Check.dueLetters("behind " + i + " letters", parrot, tail(all.substring(0, i)));
        }
    }

    private static void at40ByMocking() {
        Check.sentence("mocking by an insult is hearing its letters: with 40 there");
        String[] insults = {"q", "qr", "qrs", "qrstuvwxyz"};
        for (int before = 29; before <= 40; before++) {
            for (int insult = 0; insult < insults.length; insult++) {
                ParrotSquawks parrot = Check.taught("insult q; insult qr; insult qrs;"
                        + "insult qrstuvwxyz;");
                Check.hear(parrot, FULL.substring(0, before));
                Check.due("mock() with " + before, parrot.mock(insult),
                        Math.min(40, before + insults[insult].length()));
                Check.dueLetters("behind it", parrot,
                        tail(FULL.substring(0, before) + insults[insult]));
            }
        }
    }

    private static void at40ByEchoing() {
        Check.sentence("Echoing a number is hearing as many of the last letters again, those that "
                + "stood there as it began: with 40 there");
        for (int before : new int[] {1, 2, 3, 19, 20, 21, 38, 39, 40}) {
            String letters = FULL.substring(0, before);
            for (int n = 1; n <= before; n++) {
                ParrotSquawks parrot = Check.heard(letters);
                Check.due("echo(" + n + ") of " + before, parrot.echo(n),
                        Math.min(40, before + n));
                Check.dueLetters("behind it", parrot,
                        tail(letters + letters.substring(before - n)));
            }
        }
    }

    private static void at40ByOrders() {
        Check.sentence("as one is heard with 40 there, the first one is forgotten: by orders");
        String[] orders = {"hear q;", "hear qrstuvwxyz;", "insult q; mock q;",
            "insult qrstuvwxyz; mock qrstuvwxyz;"};
        String[] words = {"q", "qrstuvwxyz", "q", "qrstuvwxyz"};
        for (int before = 29; before <= 40; before++) {
            for (int i = 0; i < orders.length; i++) {
                ParrotSquawks parrot = Check.taught(orders[i]);
                Check.hear(parrot, FULL.substring(0, before));
                Check.due("passDays(1)", parrot.passDays(1), 1);
                Check.dueLetters("behind " + orders[i], parrot,
                        tail(FULL.substring(0, before) + words[i]));
            }
        }
    }

    private static void wordsAreHeardLetterByLetter() {
        Check.sentence("Hearing a word is hearing its letters, one behind the other; told as 1 (a) "
                + "to 26 (z), at places from 0 on");
        ParrotSquawks parrot = Check.taught("insult az; hear bya;");
        parrot.mock(0);
        parrot.passDays(1);
        int[] letters = {1, 26, 2, 25, 1};
        for (int place = 0; place < letters.length; place++) {
            Check.due("letterAt(" + place + ")", parrot.letterAt(place), letters[place]);
        }
        Check.due("length()", parrot.length(), letters.length);
    }

    private static void dueDone(String order, String sum, String letters, String want,
            int carriedOut) {
        ParrotSquawks parrot = Check.taught(order + " " + sum + ";");
        Check.hear(parrot, letters);
        String told = order + " " + sum + " with " + letters.length() + " letters";
        Check.due(told + ", carried out", parrot.passDays(1), carriedOut);
        Check.dueLetters(told + ":", parrot, want);
    }

    private static void echoingByOrders() {
        Check.sentence("Of numbers greater than how many letters there are it is that, of those "
                + "less than 0 it is 0: echoing");
        for (int there : new int[] {0, 1, 2, 3, 20, 21, 38, 39, 40}) {
            String letters = FULL.substring(0, there);
            for (String none : new String[] {MIN, MIN + "+1", "0-40", "-2", "-1", "0"}) {
                dueDone("echo", none, letters, letters, 0);
            }
            for (int n = 1; n < there; n++) {
                dueDone("echo", "" + n, letters, tail(letters + letters.substring(there - n)), 1);
            }
            for (String all : new String[] {"" + there, there + "+1", there + "+2", "40", "41",
                "999999", MAX, MAX + "-1"}) {
                dueDone("echo", all, letters, tail(letters + letters), there == 0 ? 0 : 1);
            }
        }
    }

    private static void thoseThatStoodThereAsItBegan() {
        Check.sentence("those that stood there as it began");
        // The letters that are heard push those out of the 40 that are still to be heard.
        dueDone("echo", "39", FULL, tail(FULL + FULL.substring(1)), 1);
        dueDone("echo", "40", FULL, FULL, 1);
        dueDone("echo", "35", FULL.substring(0, 35), tail(FULL.substring(0, 35)
                + FULL.substring(0, 35)), 1);
        dueDone("echo", "length", "abc", "abcabc", 1);
        dueDone("echo", "length-1", "abc", "abcbc", 1);
    }

    private static void forgettingByOrders() {
        Check.sentence("Forgetting a number: as many of the first letters are forgotten. Of "
                + "numbers greater than how many letters there are it is that, of those less than "
                + "0 it is 0");
        for (int there : new int[] {0, 1, 2, 3, 20, 39, 40}) {
            String letters = FULL.substring(0, there);
            for (String none : new String[] {MIN, MIN + "+1", "0-40", "-2", "-1", "0"}) {
                dueDone("forget", none, letters, letters, 0);
            }
            for (int n = 1; n < there; n++) {
                dueDone("forget", "" + n, letters, letters.substring(n), 1);
            }
            for (String all : new String[] {there + "+0", there + "+1", there + "+2", "40", "41",
                "999999", MAX, MAX + "-1"}) {
                dueDone("forget", all, letters, "", there == 0 ? 0 : 1);
            }
        }
    }

    private static void carriedOutIfAtLeastOneLetter() {
        Check.sentence("which can be done, if at least one letter is echoed or forgotten");
        for (String order : new String[] {"echo", "forget"}) {
            for (int there = 0; there <= 2; there++) {
                for (int n = -1; n <= 3; n++) {
                    ParrotSquawks parrot = Check.taught(order + " " + n + ";");
                    Check.hear(parrot, "ab".substring(0, there));
                    int can = n > 0 && there > 0 ? 1 : 0;
                    String told = order + " " + n + " of " + there;
                    Check.due(told + ": passDays(1)", parrot.passDays(1), can);
                    Check.due(told + ": ordersCarriedOut()", parrot.ordersCarriedOut(), can);
                }
            }
        }
        Check.sentence("a word is heard, it mocks by an insult. Each of these is carried out");
        ParrotSquawks full = Check.taught("insult a; hear a; mock a;");
        Check.hear(full, "a".repeat(40));
        Check.due("passDays(1) with 40 a", full.passDays(1), 2);
    }

    private static void testOrNone() {
        Check.sentence("if the test holds as it comes to its turn (or there is none)");
        Check.due("none", Check.taught("hear a;").passDays(1), 1);
        Check.due("one that holds", Check.taught("hear a when 0=0;").passDays(1), 1);
        Check.due("one that does not", Check.taught("hear a when 0=1;").passDays(1), 0);
        ParrotSquawks parrot = Check.taught("hear a when 0=1; hear b; hear c when 0=0;");
        Check.due("two of three", parrot.passDays(1), 2);
        Check.dueLetters("behind the day", parrot, "bc");
    }

    private static void theDayIsOneGreater() {
        Check.sentence("The day is 1 greater, behind the orders; it begins with the day 0");
        for (int day = 0; day <= 4; day++) {
            ParrotSquawks parrot = Check.taught("hear a when day = " + day + ";");
            for (int lived = 0; lived < 6; lived++) {
                Check.due("day()", parrot.day(), lived);
                Check.due("passDays(1) in the day " + lived, parrot.passDays(1),
                        lived == day ? 1 : 0);
            }
        }
        ParrotSquawks idle = new ParrotSquawks();
        idle.passDays(1);
        Check.due("day() without orders", idle.day(), 1);
    }

    /** That the value is this, and neither one less nor one more. */
    private static void dueValue(String value, String letters, int want) {
        for (int off = -1; off <= 1; off++) {
            ParrotSquawks parrot = Check.taught("insult ab; insult a;"
                    + "hear z when " + value + " = " + (want + off) + ";");
            Check.hear(parrot, letters);
            Check.due(value + " with " + letters, parrot.passDays(1), off == 0 ? 1 : 0);
        }
    }

    private static void valuesOfTests() {
        Check.sentence("length how many letters it remembers");
        dueValue("length", "", 0);
        dueValue("length", "a", 1);
        dueValue("length", FULL.substring(1), 39);
        dueValue("length", FULL, 40);
        dueValue("length", FULL + "a", 40);
        Check.sentence("longest how long the longest repeat is (0 without one)");
        dueValue("longest", "", 0);
        dueValue("longest", "a", 0);
        dueValue("longest", "ab", 0);
        dueValue("longest", "aa", 1);
        dueValue("longest", "aba", 1);
        dueValue("longest", "abab", 2);
        dueValue("longest", "a".repeat(40), 39);
        Check.sentence("kinds how many different phrases stand there");
        dueValue("kinds", "", 0);
        dueValue("kinds", "a", 1);
        dueValue("kinds", "aa", 2);
        dueValue("kinds", "ab", 3);
        dueValue("kinds", "a".repeat(40), 40);
        Check.sentence("count at how many places an insult stands");
        dueValue("count of ab", "", 0);
        dueValue("count of ab", "a", 0);
        dueValue("count of ab", "ba", 0);
        dueValue("count of ab", "ab", 1);
        dueValue("count of ab", "abab", 2);
        dueValue("count of a", "a".repeat(40), 40);
        Check.sentence("place the first of these (-1 without one)");
        dueValue("place of ab", "", -1);
        dueValue("place of ab", "ba", -1);
        dueValue("place of ab", "abab", 0);
        dueValue("place of ab", "babab", 1);
        dueValue("place of a", "b".repeat(39) + "a", 39);
        dueValue("place of ab", "b".repeat(39) + "a", -1);
        Check.sentence("knows holds if the insult is known");
        dueKnown("", 0);
        dueKnown("a", 0);
        dueKnown("ba", 0);
        dueKnown("ab", 1);
        dueKnown("b".repeat(38) + "ab", 1);
        dueKnown("b".repeat(39) + "a", 0);
    }

    private static void dueKnown(String letters, int known) {
        ParrotSquawks parrot = Check.taught("insult ab; hear z when knows ab;");
        Check.hear(parrot, letters);
        Check.due("knows ab with " + letters, parrot.passDays(1), known);
        ParrotSquawks other = Check.taught("insult ab; hear z when not knows ab;");
        Check.hear(other, letters);
        Check.due("not knows ab with " + letters, other.passDays(1), 1 - known);
    }

    private static void dueTest(String test, boolean holds) {
        ParrotSquawks parrot = Check.taught("hear a when " + test + ";");
        Check.due(test, parrot.passDays(1), holds ? 1 : 0);
    }

    private static void bothSidesOfAndAndOr() {
        Check.sentence("Both sides of and and or are reckoned; and binds more than or, not more "
                + "than and");
        String[] sides = {"1<0", "0<1"};
        for (int i = 0; i < 2; i++) {
            dueTest("not " + sides[i], i == 0);
            for (int k = 0; k < 2; k++) {
                boolean left = i == 1;
                boolean right = k == 1;
                dueTest(sides[i] + " and " + sides[k], left && right);
                dueTest(sides[i] + " or " + sides[k], left || right);
                dueTest("not " + sides[i] + " and " + sides[k], !left && right);
                dueTest("not " + sides[i] + " or " + sides[k], !left || right);
                dueTest("not [" + sides[i] + " and " + sides[k] + "]", !(left && right));
                dueTest("not [" + sides[i] + " or " + sides[k] + "]", !(left || right));
                for (int m = 0; m < 2; m++) {
                    boolean third = m == 1;
                    String back = " and " + sides[k] + " or " + sides[m];
                    dueTest(sides[i] + back, left && right || third);
                    String turned = " or " + sides[k] + " and " + sides[m];
                    dueTest(sides[i] + turned, left || right && third);
                    dueTest("[" + sides[i] + " or " + sides[k] + "] and " + sides[m],
                            (left || right) && third);
                }
            }
        }
    }

    private static void testsAsTheyComeToTheirTurns() {
        Check.sentence("Orders, in the order in which they are told, if the test holds as it comes "
                + "to its turn");
        ParrotSquawks parrot = Check.taught("hear b when length = 1; hear a when length = 0;"
                + "hear c when length = 1; forget length when length = 2; hear d when length = 0;");
        Check.due("passDays(1)", parrot.passDays(1), 4);
        Check.dueLetters("behind a day", parrot, "d");
        Check.due("passDays(1)", parrot.passDays(1), 3);
        Check.dueLetters("behind two days", parrot, "d");
    }

    private static void carriedOutInAll() {
        Check.sentence("Returns how many orders were carried out in all; passDays those in them");
        ParrotSquawks parrot = Check.taught("hear a;".repeat(15) + "hear b when day < 31;");
        Check.due("passDays(30)", parrot.passDays(30), 480);
        Check.due("ordersCarriedOut()", parrot.ordersCarriedOut(), 480);
        Check.due("passDays(2)", parrot.passDays(2), 31);
        Check.due("ordersCarriedOut()", parrot.ordersCarriedOut(), 511);
        Check.due("passDays(1)", parrot.passDays(1), 15);
        Check.due("teach()", parrot.teach(), 0);
        Check.due("ordersCarriedOut() of a new plan", parrot.ordersCarriedOut(), 0);
        Check.due("passDays(30) of a new plan", parrot.passDays(30), 0);
    }
}
