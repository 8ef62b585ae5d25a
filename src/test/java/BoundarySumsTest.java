/**
 * The boundary cases that the document names in its terms: where the numbers of the language
 * wrap around, and what a division answers.
 */
public final class BoundarySumsTest {

    private static final String LARGEST = "(32767*65536+65535)";
    private static final String SMALLEST = "((0-32768)*65536)";
    private static final int MAX = Integer.MAX_VALUE;
    private static final int MIN = Integer.MIN_VALUE;

    private BoundarySumsTest() {
    }

    public static void main(String[] args) {
        sumsWrapAround();
        differencesWrapAround();
        productsWrapAround();
        turnedNumbersWrapAround();
        divisionsAreCutTowards0();
        divisionsBy0Give0();
        smallestNumberByMinus1();
        comparisonsOfFarNumbers();
        smallestAndLargestOfTwo();
        Check.end();
    }

    private static void dueSum(String sum, int want) {
        ParrotSquawks parrot = Check.taught("hear a when " + sum + " = " + spelled(want) + ";");
        Check.due(sum + " is " + want, parrot.passDays(1), 1);
    }

    /** A sum with this answer on the way to which nothing wraps around. */
    private static String spelled(int number) {
        int high = number >> 16;
        int low = number & 65535;
        return (high < 0 ? "(0-" + -high + ")" : String.valueOf(high)) + "*65536+" + low;
    }

    private static void sumsWrapAround() {
        Check.sentence("sums of the language wrap around in 32 bits");
        dueSum(LARGEST + " - 1 + 1", MAX);
        dueSum(LARGEST + " + 0", MAX);
        dueSum(LARGEST + " + 1", MIN);
        dueSum(LARGEST + " + 2", MIN + 1);
        dueSum("1 + " + LARGEST, MIN);
        dueSum(SMALLEST + " + 0", MIN);
        dueSum(SMALLEST + " + (0-1)", MAX);
        dueSum(SMALLEST + " + (0-2)", MAX - 1);
        dueSum(LARGEST + " + " + LARGEST, -2);
        dueSum(SMALLEST + " + " + SMALLEST, 0);
        dueSum(LARGEST + " + " + SMALLEST, -1);
    }

    private static void differencesWrapAround() {
        Check.sentence("differences of the language wrap around in 32 bits");
        dueSum(SMALLEST + " + 1 - 1", MIN);
        dueSum(SMALLEST + " - 0", MIN);
        dueSum(SMALLEST + " - 1", MAX);
        dueSum(SMALLEST + " - 2", MAX - 1);
        dueSum("0 - 2 - " + LARGEST, MAX);
        dueSum("0 - 1 - " + LARGEST, MIN);
        dueSum("0 - " + LARGEST, MIN + 1);
        dueSum("0 - " + SMALLEST, MIN);
        dueSum("(0-1) - " + SMALLEST, MAX);
        dueSum(LARGEST + " - (0-1)", MIN);
        dueSum(SMALLEST + " - " + LARGEST, 1);
    }

    private static void productsWrapAround() {
        Check.sentence("products of the language wrap around in 32 bits");
        dueSum("65535 * 32768", 2147450880);
        dueSum("65536 * 32767", 2147418112);
        dueSum("65536 * 32768", MIN);
        dueSum("65536 * 32769", MIN + 65536);
        dueSum("46340 * 46340", 2147395600);
        dueSum("46341 * 46341", -2147479015);
        dueSum("46341 * (0-46341)", 2147479015);
        dueSum("65535 * 65537", -1);
        dueSum("65536 * 65536", 0);
        dueSum("65537 * 65536", 65536);
        dueSum("999999 * 999999", -729379967);
        dueSum(LARGEST + " * 2", -2);
        dueSum(LARGEST + " * (0-1)", -MAX);
        dueSum(SMALLEST + " * 2", 0);
        dueSum(SMALLEST + " * (0-1)", MIN);
        dueSum(LARGEST + " * " + LARGEST, 1);
    }

    private static void turnedNumbersWrapAround() {
        Check.sentence("- in front of the smallest number wraps around in 32 bits");
        dueSum("-(" + SMALLEST + " + 1)", MAX);
        dueSum("-" + SMALLEST, MIN);
        dueSum("-" + LARGEST, -MAX);
        dueSum("-1", -1);
        dueSum("-0", 0);
        dueSum("-(0-1)", 1);
    }

    private static void divisionsAreCutTowards0() {
        Check.sentence("/ is cut towards 0");
        int[] lefts = {1, 2, 3, 4, 5, 6, 7};
        int[] thirds = {0, 0, 1, 1, 1, 2, 2};
        for (int i = 0; i < lefts.length; i++) {
            dueSum(lefts[i] + " / 3", thirds[i]);
            dueSum("(0-" + lefts[i] + ") / 3", -thirds[i]);
            dueSum(lefts[i] + " / (0-3)", -thirds[i]);
            dueSum("(0-" + lefts[i] + ") / (0-3)", thirds[i]);
        }
        dueSum("0 / 3", 0);
        dueSum("0 / (0-3)", 0);
        dueSum(LARGEST + " / 2", 1073741823);
        dueSum("(0-" + LARGEST + ") / 2", -1073741823);
        dueSum(SMALLEST + " / 3", -715827882);
    }

    private static void divisionsBy0Give0() {
        Check.sentence("/ gives 0 with 0 on the right side");
        for (String left : new String[] {"1", "0", "5", "(0-5)"}) {
            dueSum(left + " / 0", 0);
            dueSum(left + " / (3 - 3)", 0);
        }
        dueSum("5 / 1", 5);
        dueSum("5 / (0-1)", -5);
        dueSum(LARGEST + " / 0", 0);
        dueSum(SMALLEST + " / 0", 0);
        dueSum("5 / 0 * 7 + 2", 2);
    }

    private static void smallestNumberByMinus1() {
        Check.sentence("-2147483648 / -1 gives -2147483648");
        dueSum(SMALLEST + " / -1", MIN);
        dueSum("(" + SMALLEST + " + 1) / -1", MAX);
        dueSum(LARGEST + " / -1", -MAX);
        dueSum(SMALLEST + " / 1", MIN);
        dueSum(SMALLEST + " / -2", 1073741824);
    }

    private static void dueTests(String left, String right, boolean less, boolean same) {
        String[] signs = {"<", ">", "=", "<=", ">="};
        boolean[] holds = {less, !less && !same, same, less || same, !less};
        for (int i = 0; i < signs.length; i++) {
            String test = left + " " + signs[i] + " " + right;
            ParrotSquawks parrot = Check.taught("hear a when " + test + ";");
            Check.due(test, parrot.passDays(1), holds[i] ? 1 : 0);
        }
    }

    private static void comparisonsOfFarNumbers() {
        Check.sentence("sum ( < | > | = | <= | >= ) sum: one step to each side, and far apart");
        for (String number : new String[] {"0", "7", "(0-1)", "999999"}) {
            dueTests(number, number + " + 1", true, false);
            dueTests(number, number, false, true);
            dueTests(number, number + " - 1", false, false);
        }
        dueTests(SMALLEST, LARGEST, true, false);
        dueTests(LARGEST, SMALLEST, false, false);
        dueTests(LARGEST, LARGEST + " + 1", false, false);
        dueTests(SMALLEST, SMALLEST + " - 1", true, false);
        dueTests("(0-2)", LARGEST, true, false);
        dueTests("0", SMALLEST, false, false);
    }

    private static void smallestAndLargestOfTwo() {
        Check.sentence("( min | max ) ( sum , sum ): one step to each side, and far apart");
        dueSum("min(4, 5)", 4);
        dueSum("min(5, 5)", 5);
        dueSum("min(6, 5)", 5);
        dueSum("max(4, 5)", 5);
        dueSum("max(5, 5)", 5);
        dueSum("max(6, 5)", 6);
        dueSum("min(" + SMALLEST + ", " + LARGEST + ")", MIN);
        dueSum("max(" + SMALLEST + ", " + LARGEST + ")", MAX);
        dueSum("min(0, " + LARGEST + " + 1)", MIN);
        dueSum("max(0 - 2, " + SMALLEST + ")", -2);
    }
}
