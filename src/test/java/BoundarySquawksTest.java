/** The boundary cases of squawks, phrases and insults: ends, ties, and what there is none of. */
public final class BoundarySquawksTest {

    // Forty letters of which no two that follow each other stand there again.
    private static final String FULL = "abcdefghijklmnopqrstuvwxyzzyxwvutsrqponm";

    private BoundarySquawksTest() {
    }

    public static void main(String[] args) {
        whateverIsAskedFirst();
        whatIsHeardAndForgottenSinceThen();
        squawksToTheEnd();
        smallerLetterWhereTheyDiffer();
        atItsEnd();
        ranksFrom0();
        sharedTillTheFirstThatIsNot();
        sharedWithTheRankAhead();
        phrasesOfOneOrMoreLetters();
        differentPhrasesOfSoManyLetters();
        repeatedPhrasesOfSoManyLetters();
        atTwoPlacesAtLeast();
        whichMayOverlap();
        ofSeveralTheOneAhead();
        firstPlaceOfTheRepeat();
        mockedAtEnd();
        knownIfItStandsSomewhere();
        countsOfInsults();
        halvingWithoutLetters();
        stepsOfHalving();
        aheadOfTheLettersOfTheInsult();
        insultThatStandsAtTheMostPlaces();
        meanOfShared();
        Check.end();
    }

    private static void whateverIsAskedFirst() {
        Check.sentence("Of banana, whatever is asked first");
        Check.due("kinds()", Check.heard("banana").kinds(), 15);
        Check.due("rankOf(0)", Check.heard("banana").rankOf(0), 3);
        Check.due("placeAt(0)", Check.heard("banana").placeAt(0), 5);
        Check.due("sharedAt(2)", Check.heard("banana").sharedAt(2), 3);
        Check.due("shared(1, 3)", Check.heard("banana").shared(1, 3), 3);
        Check.due("isAhead(5, 0)", Check.heard("banana").isAhead(5, 0), true);
        Check.due("isAhead(0, 5)", Check.heard("banana").isAhead(0, 5), false);
        Check.due("longestRepeat()", Check.heard("banana").longestRepeat(), 3);
        Check.due("repeatPlace()", Check.heard("banana").repeatPlace(), 1);
        Check.due("repeatCount()", Check.heard("banana").repeatCount(), 2);
        Check.due("kindsOf(2)", Check.heard("banana").kindsOf(2), 3);
        Check.due("repeatedOf(2)", Check.heard("banana").repeatedOf(2), 2);
        Check.due("mockedAtEnd()", Check.heard("banana").mockedAtEnd(), 3);
        Check.due("bestLetter()", Check.heard("banana").bestLetter(), 14);
        Check.dueMean("meanShared()", Check.heard("banana").meanShared(), 1.0);
        Check.due("digest()", Check.heard("banana").digest(), Check.heard("banana").digest());
        // Sorted: a, ana, anana, banana, na, nana.
        dueSteps("ana", "banana", 3);
    }

    /** The same answers as of one that has heard nothing but these letters. */
    private static void dueAsFresh(String when, ParrotSquawks parrot, String letters) {
        ParrotSquawks fresh = Check.heard(letters);
        Check.due(when + "kinds()", parrot.kinds(), fresh.kinds());
        Check.due(when + "longestRepeat()", parrot.longestRepeat(), fresh.longestRepeat());
        Check.dueMean(when + "meanShared()", parrot.meanShared(), fresh.meanShared());
        Check.due(when + "digest()", parrot.digest(), fresh.digest());
    }

    private static void whatIsHeardAndForgottenSinceThen() {
        Check.sentence("The squawks are those of the letters that it remembers now");
        String letters = "bananas" + "a".repeat(40);
        ParrotSquawks growing = new ParrotSquawks();
        for (int i = 0; i < letters.length(); i++) {
            growing.hear(letters.charAt(i) - 96);
            String now = letters.substring(Math.max(0, i - 39), i + 1);
            dueAsFresh("growing to " + now + ": ", growing, now);
        }
        ParrotSquawks shrinking = Check.heard("aaabcaabbaab");
        for (int gone = 1; gone <= 12; gone++) {
            shrinking.forget(1);
            dueAsFresh("without the first " + gone + ": ", shrinking,
                    "aaabcaabbaab".substring(gone));
        }
        ParrotSquawks echoing = Check.heard("ab");
        dueAsFresh("ahead of echo: ", echoing, "ab");
        echoing.echo(2);
        dueAsFresh("behind echo: ", echoing, "abab");
        ParrotSquawks emptied = Check.heard("abab");
        dueAsFresh("ahead of teach: ", emptied, "abab");
        emptied.teach();
        dueAsFresh("behind teach: ", emptied, "");
    }

    private static void squawksToTheEnd() {
        Check.sentence("The squawk of a place is all letters from there to the end");
        for (int size : new int[] {1, 2, 3, 39, 40}) {
            ParrotSquawks parrot = Check.heard("a".repeat(size));
            for (int place = 0; place < size; place++) {
                Check.due("shared() with itself", parrot.shared(place, place), size - place);
                Check.due("rankOf() of 'a's", parrot.rankOf(place), size - 1 - place);
                Check.due("placeAt() of 'a's", parrot.placeAt(place), size - 1 - place);
            }
        }
    }

    private static void dueAhead(String letters, int first, int other) {
        ParrotSquawks parrot = Check.heard(letters);
        String told = letters + ": " + first + " and " + other;
        Check.due("isAhead " + told, parrot.isAhead(first, other), true);
        Check.due("isAhead turned " + told, parrot.isAhead(other, first), false);
        Check.due("rankOf " + told, parrot.rankOf(first) < parrot.rankOf(other), true);
    }

    private static void smallerLetterWhereTheyDiffer() {
        Check.sentence("the one comes ahead that has the smaller letter where they differ first");
        dueAhead("ab", 0, 1);
        dueAhead("ba", 1, 0);
        dueAhead("az", 0, 1);
        dueAhead("yz", 0, 1);
        dueAhead("zy", 1, 0);
        dueAhead("aaab", 0, 1);
        dueAhead("aaab", 1, 2);
        dueAhead("bbba", 1, 0);
        dueAhead("xabxaa", 4, 1);
        dueAhead("xabxaa", 3, 0);
        // Not the longer one, nor one that has a smaller letter farther back.
        dueAhead("abzabya", 3, 0);
        dueAhead("acaabz", 3, 0);
        dueAhead("a".repeat(19) + "b" + "a".repeat(19) + "a", 20, 0);
        dueAhead("a".repeat(38) + "b" + "a", 39, 0);
        dueAhead("a".repeat(39) + "b", 0, 1);
    }

    private static void atItsEnd() {
        Check.sentence("or that is at its end, if they do not till then");
        dueAhead("aa", 1, 0);
        dueAhead("zz", 1, 0);
        dueAhead("aba", 2, 0);
        dueAhead("zyz", 2, 0);
        dueAhead("abcab", 3, 0);
        dueAhead("a".repeat(40), 39, 38);
        dueAhead("a".repeat(40), 1, 0);
        Check.sentence("isAhead: another one, or the same");
        for (int size : new int[] {1, 2, 40}) {
            ParrotSquawks parrot = Check.heard("a".repeat(size));
            for (int place = 0; place < size; place++) {
                Check.due("isAhead() of itself", parrot.isAhead(place, place), false);
            }
        }
    }

    private static void ranksFrom0() {
        Check.sentence("The rank of a squawk is how many come ahead of it");
        for (int size : new int[] {1, 2, 26}) {
            ParrotSquawks parrot = Check.heard(FULL.substring(0, size));
            ParrotSquawks turned = Check.heard(new StringBuilder(FULL.substring(0, size))
                    .reverse().toString());
            for (int place = 0; place < size; place++) {
                Check.due("rankOf() of a to z", parrot.rankOf(place), place);
                Check.due("placeAt() of a to z", parrot.placeAt(place), place);
                Check.due("rankOf() of z to a", turned.rankOf(place), size - 1 - place);
                Check.due("placeAt() of z to a", turned.placeAt(place), size - 1 - place);
            }
        }
    }

    private static void dueShared(String letters, int place, int other, int want) {
        ParrotSquawks parrot = Check.heard(letters);
        String told = letters + ": " + place + " and " + other;
        Check.due("shared " + told, parrot.shared(place, other), want);
        Check.due("shared turned " + told, parrot.shared(other, place), want);
    }

    private static void sharedTillTheFirstThatIsNot() {
        Check.sentence("Two squawks share as many letters as are the same from the beginning of "
                + "both on, till the first that is not");
        dueShared("ab", 0, 1, 0);
        dueShared("aa", 0, 1, 1);
        dueShared("a", 0, 0, 1);
        dueShared("abxab", 0, 3, 2);
        dueShared("abxabx", 0, 3, 3);
        dueShared("abxaby", 0, 3, 2);
        dueShared("axbayb", 0, 3, 1);
        dueShared("xbyb", 0, 2, 0);
        dueShared("aaab", 0, 1, 2);
        dueShared("a".repeat(40), 0, 1, 39);
        dueShared("a".repeat(40), 0, 39, 1);
        dueShared("a".repeat(40), 0, 0, 40);
        dueShared("a".repeat(40), 39, 39, 1);
        dueShared("b" + "a".repeat(39), 0, 39, 0);
        dueShared("a".repeat(39) + "b", 0, 1, 38);
    }

    private static void dueSharedAt(String letters, int... want) {
        ParrotSquawks parrot = Check.heard(letters);
        for (int rank = 0; rank < want.length; rank++) {
            Check.due(letters + ": sharedAt(" + rank + ")", parrot.sharedAt(rank), want[rank]);
        }
        Check.dueNoPlace(letters + ": sharedAt(-1)", () -> parrot.sharedAt(-1));
        Check.dueNoPlace(letters + ": sharedAt() of too great a rank",
                () -> parrot.sharedAt(want.length));
    }

    private static void sharedWithTheRankAhead() {
        Check.sentence("Returns how many letters this squawk shares with that of the rank ahead of "
                + "it; 0 for the rank 0");
        dueSharedAt("");
        dueSharedAt("a", 0);
        dueSharedAt("aa", 0, 1);
        dueSharedAt("ab", 0, 0);
        dueSharedAt("aaa", 0, 1, 2);
        // Sorted: ab, abab, b, bab.
        dueSharedAt("abab", 0, 2, 0, 1);
        dueSharedAt("aab", 0, 1, 0);
    }

    private static void duePhrases(String letters, int want) {
        ParrotSquawks parrot = Check.heard(letters);
        Check.due("kinds() of " + letters, parrot.kinds(), want);
        int sum = 0;
        for (int size = 1; size <= 40; size++) {
            sum += parrot.kindsOf(size);
        }
        Check.due("kindsOf() of all sizes of " + letters, sum, want);
    }

    private static void phrasesOfOneOrMoreLetters() {
        Check.sentence("A phrase is a row of one or more letters");
        duePhrases("", 0);
        duePhrases("a", 1);
        duePhrases("aa", 2);
        duePhrases("ab", 3);
        duePhrases("aba", 5);
        duePhrases("abc", 6);
        duePhrases("a".repeat(39), 39);
        duePhrases("a".repeat(40), 40);
        duePhrases("a".repeat(39) + "b", 79);
        // All rows of two and more letters are different: 26 of one, and 39 down to 1.
        duePhrases(FULL, 26 + 780);
        duePhrases(FULL.substring(0, 26), 351);
        duePhrases(FULL.substring(0, 27), 26 + 351);
    }

    private static void differentPhrasesOfSoManyLetters() {
        Check.sentence("kindsOf: if letters is not 1 to 40; how many different phrases of so many "
                + "letters stand there");
        for (int size : new int[] {0, 1, 2, 39, 40}) {
            ParrotSquawks same = Check.heard("a".repeat(size));
            ParrotSquawks full = Check.heard(FULL.substring(0, size));
            for (int letters = 1; letters <= 40; letters++) {
                Check.due("kindsOf(" + letters + ") of " + size + " a", same.kindsOf(letters),
                        letters <= size ? 1 : 0);
                int rows = Math.max(0, size - letters + 1);
                Check.due("kindsOf(" + letters + ") of the first " + size,
                        full.kindsOf(letters), letters == 1 ? Math.min(26, rows) : rows);
            }
            for (int wrong : new int[] {Integer.MIN_VALUE, -1, 0, 41, 42, Integer.MAX_VALUE}) {
                Check.dueRefused(same, "kindsOf(" + wrong + ")", IllegalArgumentException.class,
                        () -> same.kindsOf(wrong));
            }
        }
    }

    private static void repeatedPhrasesOfSoManyLetters() {
        Check.sentence("repeatedOf: if letters is not 1 to 40; how many different phrases of so "
                + "many letters stand at two places at least");
        for (int size : new int[] {0, 1, 2, 3, 39, 40}) {
            ParrotSquawks same = Check.heard("a".repeat(size));
            for (int letters = 1; letters <= 40; letters++) {
                Check.due("repeatedOf(" + letters + ") of " + size + " a",
                        same.repeatedOf(letters), letters < size ? 1 : 0);
            }
            for (int wrong : new int[] {Integer.MIN_VALUE, -1, 0, 41, 42, Integer.MAX_VALUE}) {
                Check.dueRefused(same, "repeatedOf(" + wrong + ")",
                        IllegalArgumentException.class, () -> same.repeatedOf(wrong));
            }
        }
        ParrotSquawks full = Check.heard(FULL);
        Check.due("repeatedOf(1) of forty", full.repeatedOf(1), 14);
        Check.due("repeatedOf(2) of forty", full.repeatedOf(2), 0);
        // Three times is one phrase, two phrases at two places each are two.
        Check.due("repeatedOf(1) of aaabcbc", Check.heard("aaabcbc").repeatedOf(1), 3);
        Check.due("repeatedOf(2) of aaabcbc", Check.heard("aaabcbc").repeatedOf(2), 2);
        Check.due("repeatedOf(3) of aaabcbc", Check.heard("aaabcbc").repeatedOf(3), 0);
    }

    private static void dueRepeat(String letters, int longest, int place, int count) {
        ParrotSquawks parrot = Check.heard(letters);
        Check.due(letters + ": longestRepeat()", parrot.longestRepeat(), longest);
        Check.due(letters + ": repeatPlace()", parrot.repeatPlace(), place);
        Check.due(letters + ": repeatCount()", parrot.repeatCount(), count);
    }

    private static void atTwoPlacesAtLeast() {
        Check.sentence("The longest repeat is the longest phrase that stands at two places at "
                + "least; 0, -1 and 0 without one");
        dueRepeat("", 0, -1, 0);
        dueRepeat("a", 0, -1, 0);
        dueRepeat("ab", 0, -1, 0);
        dueRepeat(FULL.substring(0, 26), 0, -1, 0);
        dueRepeat(FULL.substring(0, 27), 1, 25, 2);
        dueRepeat("aa", 1, 0, 2);
        dueRepeat("aba", 1, 0, 2);
        dueRepeat("abaca", 1, 0, 3);
        dueRepeat("abab", 2, 0, 2);
        dueRepeat("abcabdab", 2, 0, 3);
        String twenty = FULL.substring(0, 20);
        dueRepeat(twenty + twenty, 20, 0, 2);
        dueRepeat("z" + twenty + twenty.substring(0, 19), 19, 1, 2);
    }

    private static void whichMayOverlap() {
        Check.sentence("two places at least, which may overlap");
        dueRepeat("aaa", 2, 0, 2);
        dueRepeat("ababa", 3, 0, 2);
        dueRepeat("a".repeat(39), 38, 0, 2);
        dueRepeat("a".repeat(40), 39, 0, 2);
        dueRepeat("ab".repeat(20), 38, 0, 2);
        dueRepeat("abc".repeat(13), 36, 0, 2);
    }

    private static void ofSeveralTheOneAhead() {
        Check.sentence("of several the one whose squawk comes ahead");
        dueRepeat("bbaa", 1, 2, 2);
        dueRepeat("aabb", 1, 0, 2);
        dueRepeat("zyxwzyabcab", 2, 6, 2);
        dueRepeat("zyzyzayaya", 3, 5, 2);
        dueRepeat("bcbcbxacaca", 3, 6, 2);
        // Longer ones go first, however their squawks stand.
        dueRepeat("zyxzyxaa", 3, 0, 2);
        // Not the one that stands at the most places.
        dueRepeat("bbbaa", 2, 0, 2);
        dueRepeat("bcbcbcaa", 4, 0, 2);
        dueRepeat("dbebfbaca", 1, 6, 2);
    }

    private static void firstPlaceOfTheRepeat() {
        Check.sentence("Returns the first place where the longest repeat stands");
        dueRepeat("abzab", 2, 0, 2);
        dueRepeat("zabzyab", 2, 1, 2);
        // Sorted its squawks are those of the places 6, 0 and 3, or 6, 3 and 0.
        dueRepeat("abcabdab", 2, 0, 3);
        dueRepeat("abdabcab", 2, 0, 3);
        dueRepeat("cabdabeab", 2, 1, 3);
        dueRepeat("cabeabdab", 2, 1, 3);
    }

    private static void mockedAtEnd() {
        Check.sentence("how many letters at the end stand one behind the other at an earlier place "
                + "as well, as many as there can be; 0 if the last letter stands nowhere else");
        String[] letters = {"", "a", "ab", "aa", "aba", "abab", "ababa", "aab", "xabyab", "abxbab",
            "bab", "babb", "a".repeat(39), "a".repeat(40), "b" + "a".repeat(39),
            "a".repeat(39) + "b", FULL, FULL.substring(0, 26), FULL.substring(0, 27),
            "abcdefghijklmnopqrstabcdefghijklmnopqrst"};
        int[] want = {0, 0, 0, 1, 1, 2, 3, 0, 2, 2, 1, 1, 38, 39, 38, 0, 1, 0, 1, 20};
        for (int i = 0; i < letters.length; i++) {
            Check.due("mockedAtEnd() of " + letters[i], Check.heard(letters[i]).mockedAtEnd(),
                    want[i]);
        }
    }

    private static void duePlaces(String insult, String letters, int count, int first, int last) {
        ParrotSquawks parrot = Check.taught("insult " + insult + ";");
        Check.hear(parrot, letters);
        String told = insult + " in " + letters;
        Check.due("countOf: " + told, parrot.countOf(0), count);
        Check.due("firstOf: " + told, parrot.firstOf(0), first);
        Check.due("lastOf: " + told, parrot.lastOf(0), last);
        Check.due("daysUntilKnown: " + told, parrot.daysUntilKnown(0), count > 0 ? 0 : -1);
    }

    private static void knownIfItStandsSomewhere() {
        Check.sentence("An insult is known, if it stands somewhere; firstOf and lastOf: -1 if it "
                + "is not known");
        duePlaces("ab", "", 0, -1, -1);
        duePlaces("ab", "a", 0, -1, -1);
        duePlaces("ab", "b", 0, -1, -1);
        duePlaces("ab", "ab", 1, 0, 0);
        duePlaces("ab", "aba", 1, 0, 0);
        duePlaces("ab", "aab", 1, 1, 1);
        duePlaces("ab", "acb", 0, -1, -1);
        duePlaces("abc", "abab", 0, -1, -1);
        duePlaces("a", "a", 1, 0, 0);
        duePlaces("z", "a", 0, -1, -1);
        duePlaces("abcdefghij", "abcdefghi", 0, -1, -1);
        duePlaces("abcdefghij", "abcdefghij", 1, 0, 0);
        duePlaces("abcdefghij", "zabcdefghij", 1, 1, 1);
        duePlaces("ab", "c".repeat(38) + "ab", 1, 38, 38);
        duePlaces("ab", "c".repeat(39) + "a", 0, -1, -1);
        duePlaces("ab", "ab" + "c".repeat(38), 1, 0, 0);
        duePlaces("ab", "ab" + "c".repeat(39), 0, -1, -1);
    }

    private static void countsOfInsults() {
        Check.sentence("Returns at how many places it stands; the first of these; the last of "
                + "these");
        duePlaces("aa", "aa", 1, 0, 0);
        duePlaces("aa", "aaa", 2, 0, 1);
        duePlaces("aba", "ababa", 2, 0, 2);
        duePlaces("a", "a".repeat(39), 39, 0, 38);
        duePlaces("a", "a".repeat(40), 40, 0, 39);
        duePlaces("aa", "a".repeat(40), 39, 0, 38);
        duePlaces("aaaaaaaaaa", "a".repeat(9), 0, -1, -1);
        duePlaces("aaaaaaaaaa", "a".repeat(10), 1, 0, 0);
        duePlaces("aaaaaaaaaa", "a".repeat(11), 2, 0, 1);
        duePlaces("aaaaaaaaaa", "a".repeat(40), 31, 0, 30);
    }

    private static void dueSteps(String insult, String letters, int want) {
        ParrotSquawks parrot = Check.taught("insult q; insult " + insult + ";");
        Check.hear(parrot, letters);
        Check.due("steps to " + insult + " in " + letters, parrot.stepsTo(1), want);
        dueStepsBehindForgetting(insult, letters, want);
    }

    /** What was forgotten is no part of a squawk, and stands behind none. */
    private static void dueStepsBehindForgetting(String insult, String letters, int want) {
        ParrotSquawks parrot = Check.taught("insult q; insult " + insult + ";");
        for (int more = 1; more <= 40 - letters.length() && more <= 3; more++) {
            Check.hear(parrot, "zzz".substring(0, more) + letters);
            parrot.forget(parrot.length() - letters.length());
            Check.due("steps to " + insult + " in " + letters + ", all else forgotten",
                    parrot.stepsTo(1), want);
        }
    }

    private static void halvingWithoutLetters() {
        Check.sentence("low is 0, and high how many letters there are; as long as low is less than "
                + "high, there is a step");
        dueSteps("a", "", 0);
        dueSteps("abcdefghij", "", 0);
        dueSteps("a", "a", 1);
        dueSteps("a", "b", 1);
        dueSteps("b", "a", 1);
    }

    private static void stepsOfHalving() {
        Check.sentence("middle is (low + high) / 2; low is middle + 1, otherwise high is middle");
        int[] sizes = {0, 1, 2, 3, 4, 5, 6, 7, 8, 15, 16, 31, 32, 38, 39, 40};
        int[] toTheLeft = {0, 1, 2, 2, 3, 3, 3, 3, 4, 4, 5, 5, 6, 6, 6, 6};
        int[] toTheRight = {0, 1, 1, 2, 2, 2, 2, 3, 3, 4, 4, 5, 5, 5, 5, 5};
        for (int i = 0; i < sizes.length; i++) {
            dueSteps("a", "m".repeat(sizes[i]), toTheLeft[i]);
            dueSteps("z", "m".repeat(sizes[i]), toTheRight[i]);
        }
        // Each squawk of bdfhj begins with a letter of its own, in the order of their places.
        int[] ofFive = {3, 3, 2, 3, 3};
        for (int place = 0; place < 5; place++) {
            dueSteps("" + (char) ('b' + 2 * place), "bdfhj", ofFive[place]);
        }
        int[] between = {3, 3, 2, 3, 3, 2};
        for (int place = 0; place <= 5; place++) {
            dueSteps("" + (char) ('a' + 2 * place), "bdfhj", between[place]);
        }
    }

    private static void aheadOfTheLettersOfTheInsult() {
        Check.sentence("if the squawk of this rank comes ahead of the letters of the insult");
        // Of two letters the rank 1 is looked at first: one step if it is ahead, otherwise two.
        dueSteps("a", "ab", 2);
        dueSteps("b", "ab", 2);
        dueSteps("ba", "ab", 1);
        dueSteps("c", "ab", 1);
        dueSteps("az", "ba", 2);
        dueSteps("b", "ba", 2);
        dueSteps("ba", "ba", 2);
        dueSteps("baa", "ba", 1);
        dueSteps("bb", "ba", 1);
        dueSteps("bb", "bc", 2);
        dueSteps("bb", "cb", 2);
        dueSteps("cbz", "cb", 1);
        dueSteps("ca", "cb", 2);
        dueSteps("caz", "cb", 2);
        dueSteps("cc", "cb", 1);
        // Of 40 squawks, with one that is at its end where the letters of the insult go on.
        dueSteps("zzzzzzzzzz", "z".repeat(9), 3);
        dueSteps("zzzzzzzzzz", "a".repeat(39) + "z", 5);
        dueSteps("zz", "a".repeat(39) + "z", 5);
        dueSteps("z", "a".repeat(39) + "z", 5);
        dueSteps("aaaaaaaaaa", "a".repeat(40), 5);
    }

    private static void dueMostSaid(String plan, String letters, int want) {
        ParrotSquawks parrot = Check.taught(plan);
        Check.hear(parrot, letters);
        Check.due("mostSaid() of " + plan + " in " + letters, parrot.mostSaid(), want);
    }

    private static void insultThatStandsAtTheMostPlaces() {
        Check.sentence("Returns the insult that stands at the most places, of several the smallest "
                + "number; -1 without any");
        dueMostSaid("", "", -1);
        dueMostSaid("", "abab", -1);
        dueMostSaid("hear a;", "a", -1);
        dueMostSaid("insult a;", "", 0);
        dueMostSaid("insult a;", "b", 0);
        dueMostSaid("insult a;", "a", 0);
        dueMostSaid("insult a; insult b;", "", 0);
        dueMostSaid("insult a; insult b;", "b", 1);
        dueMostSaid("insult a; insult b;", "a", 0);
        dueMostSaid("insult a; insult b;", "ab", 0);
        dueMostSaid("insult a; insult b;", "aab", 0);
        dueMostSaid("insult a; insult b;", "abb", 1);
        dueMostSaid("insult a; insult b; insult c;", "abb", 1);
        dueMostSaid("insult a; insult b;", "bba", 1);
        dueMostSaid("insult a; insult b; insult c;", "bc", 1);
        String eight = "insult a;insult b;insult c;insult d;insult e;insult f;insult g;insult h;";
        dueMostSaid(eight, "", 0);
        dueMostSaid(eight, "h", 7);
        dueMostSaid(eight, "hg", 6);
        dueMostSaid(eight, "abcdefghh", 7);
    }

    private static void meanOfShared() {
        Check.sentence("Returns the mean of sharedAt() of all ranks; 0 without letters");
        Check.dueMean("meanShared() of nothing", Check.heard("").meanShared(), 0.0);
        Check.dueMean("meanShared() of a", Check.heard("a").meanShared(), 0.0);
        Check.dueMean("meanShared() of aa", Check.heard("aa").meanShared(), 0.5);
        Check.dueMean("meanShared() of ab", Check.heard("ab").meanShared(), 0.0);
        Check.dueMean("meanShared() of aab", Check.heard("aab").meanShared(), 1.0 / 3.0);
        Check.dueMean("meanShared() of abab", Check.heard("abab").meanShared(), 0.75);
        Check.dueMean("meanShared() of 39 a", Check.heard("a".repeat(39)).meanShared(), 19.0);
        Check.dueMean("meanShared() of 40 a", Check.heard("a".repeat(40)).meanShared(), 19.5);
        ParrotSquawks parrot = Check.heard("aa");
        parrot.forget(2);
        Check.dueMean("meanShared() with all forgotten", parrot.meanShared(), 0.0);
    }
}
