import java.math.BigInteger;
import java.util.function.IntToLongFunction;

/** The boundary cases of the calls: what they refuse, what they leave alone, where they end. */
public final class BoundaryCallsTest {

    private static final Class<IndexOutOfBoundsException> NO_PLACE =
            IndexOutOfBoundsException.class;
    private static final Class<IllegalArgumentException> NO_ARGUMENT =
            IllegalArgumentException.class;
    private static final int MIN = Integer.MIN_VALUE;
    private static final int MAX = Integer.MAX_VALUE;
    private static final String EIGHT = "insult a;insult b;insult c;insult d;insult e;insult f;"
            + "insult g;insult h;";
    // Forty letters of which no two that follow each other stand there again.
    private static final String FULL = "abcdefghijklmnopqrstuvwxyzzyxwvutsrqponm";

    private BoundaryCallsTest() {
    }

    public static void main(String[] args) {
        noSuchPlace();
        noSuchPlaceOfTwo();
        noSuchRank();
        noSuchInsult();
        hearRefuses();
        echoAndForgetRefuse();
        daysRefuse();
        refusedCallsChangeNothing();
        errorAtOfTheLatestTeach();
        allBeginsAnew();
        allStaysWithAnError();
        daysThatWouldBe();
        repeatBehindDays();
        daysUntilKnown();
        questionsChangeNothing();
        bestLetterOfSeveral();
        bestLetterAt40();
        digestWrapsAround();
        upTo512Calls();
        Check.end();
    }

    // ---- what is refused

    /** The call takes 0 to limit - 1, and refuses all else. */
    private static void dueIndex(ParrotSquawks parrot, String name, int limit,
            IntToLongFunction call) {
        for (int wrong : new int[] {MIN, -40, -2, -1, limit, limit + 1, limit + 40, MAX}) {
            Check.dueRefused(parrot, name + "(" + wrong + ") of " + limit, NO_PLACE,
                    () -> call.applyAsLong(wrong));
        }
        for (int good = 0; good < limit; good++) {
            call.applyAsLong(good);
        }
    }

    private static void noSuchPlace() {
        Check.sentence("Throws IndexOutOfBoundsException if there is no such place");
        for (int size : new int[] {0, 1, 2, 39, 40}) {
            ParrotSquawks parrot = Check.heard(FULL.substring(0, size));
            dueIndex(parrot, "letterAt", size, parrot::letterAt);
            dueIndex(parrot, "rankOf", size, parrot::rankOf);
        }
        ParrotSquawks fewer = Check.heard("abc");
        fewer.forget(1);
        dueIndex(fewer, "letterAt", 2, fewer::letterAt);
        dueIndex(fewer, "rankOf", 2, fewer::rankOf);
        ParrotSquawks more = Check.heard(FULL + "a");
        dueIndex(more, "letterAt", 40, more::letterAt);
    }

    private static void noSuchPlaceOfTwo() {
        Check.sentence("Throws IndexOutOfBoundsException if there is no such place: of two");
        for (int size : new int[] {1, 2, 40}) {
            for (int one : new int[] {0, size - 1}) {
                ParrotSquawks parrot = Check.heard(FULL.substring(0, size));
                dueIndex(parrot, "shared with " + one, size, place -> parrot.shared(place, one));
                dueIndex(parrot, "shared of " + one, size, place -> parrot.shared(one, place));
                dueIndex(parrot, "isAhead with " + one, size, place -> ahead(parrot, place, one));
                dueIndex(parrot, "isAhead of " + one, size, place -> ahead(parrot, one, place));
                Check.dueNoPlace("shared of two wrong", () -> parrot.shared(-1, size));
                Check.dueNoPlace("isAhead of two wrong", () -> ahead(parrot, size, -1));
            }
        }
        ParrotSquawks none = new ParrotSquawks();
        Check.dueNoPlace("shared(0, 0) of none", () -> none.shared(0, 0));
        Check.dueNoPlace("isAhead(0, 0) of none", () -> ahead(none, 0, 0));
    }

    private static long ahead(ParrotSquawks parrot, int place, int other) {
        return parrot.isAhead(place, other) ? 1 : 0;
    }

    private static void noSuchRank() {
        Check.sentence("Throws IndexOutOfBoundsException if there is no such rank");
        for (int size : new int[] {0, 1, 2, 39, 40}) {
            ParrotSquawks parrot = Check.heard(FULL.substring(0, size));
            dueIndex(parrot, "placeAt", size, parrot::placeAt);
            dueIndex(parrot, "sharedAt", size, parrot::sharedAt);
        }
    }

    private static void noSuchInsult() {
        Check.sentence("Throws IndexOutOfBoundsException if there is no such insult");
        for (int size : new int[] {0, 1, 2, 7, 8}) {
            ParrotSquawks parrot = Check.taught(EIGHT.substring(0, 9 * size));
            Check.due("insults()", parrot.insults(), size);
            Check.hear(parrot, "abcabc");
            dueIndex(parrot, "lettersOf", size, parrot::lettersOf);
            dueIndex(parrot, "countOf", size, parrot::countOf);
            dueIndex(parrot, "firstOf", size, parrot::firstOf);
            dueIndex(parrot, "lastOf", size, parrot::lastOf);
            dueIndex(parrot, "stepsTo", size, parrot::stepsTo);
            dueIndex(parrot, "daysUntilKnown", size, parrot::daysUntilKnown);
            dueIndex(parrot, "mock", size, parrot::mock);
        }
        ParrotSquawks fewer = Check.taught(EIGHT);
        Check.teach(fewer, "insult a;");
        dueIndex(fewer, "lettersOf", 1, fewer::lettersOf);
        dueIndex(fewer, "mock", 1, fewer::mock);
    }

    private static void hearRefuses() {
        Check.sentence("hear throws IllegalArgumentException if letter is not 1 to 26");
        ParrotSquawks parrot = Check.heard("abc");
        for (int wrong : new int[] {MIN, -26, -1, 0, 27, 28, 97, MAX}) {
            Check.dueRefused(parrot, "hear(" + wrong + ")", NO_ARGUMENT,
                    () -> parrot.hear(wrong));
        }
        for (int letter = 1; letter <= 26; letter++) {
            Check.due("hear(" + letter + ")", parrot.hear(letter), 3 + letter);
            Check.due("letterAt() of it", parrot.letterAt(2 + letter), letter);
        }
    }

    private static void echoAndForgetRefuse() {
        Check.sentence("echo and forget throw IllegalArgumentException if letters is not 1 to 40, "
                + "or greater than how many it remembers");
        for (int there : new int[] {0, 1, 2, 39, 40}) {
            ParrotSquawks parrot = Check.heard(FULL.substring(0, there));
            for (int wrong : new int[] {MIN, -1, 0, there + 1, there + 2, 41, 42, MAX}) {
                Check.dueRefused(parrot, "echo(" + wrong + ") of " + there, NO_ARGUMENT,
                        () -> parrot.echo(wrong));
                Check.dueRefused(parrot, "forget(" + wrong + ") of " + there, NO_ARGUMENT,
                        () -> parrot.forget(wrong));
            }
            for (int letters = 1; letters <= there; letters++) {
                ParrotSquawks echoing = Check.heard(FULL.substring(0, there));
                Check.due("echo(" + letters + ") of " + there, echoing.echo(letters),
                        Math.min(40, there + letters));
                ParrotSquawks forgetful = Check.heard(FULL.substring(0, there));
                Check.due("forget(" + letters + ") of " + there, forgetful.forget(letters),
                        there - letters);
                Check.dueLetters("behind forget(" + letters + ")", forgetful,
                        FULL.substring(letters, there));
            }
        }
    }

    private static void daysRefuse() {
        Check.sentence("passDays and repeatAfter throw IllegalArgumentException if days is not 1 "
                + "to 30");
        ParrotSquawks parrot = Check.taught("hear a;");
        Check.hear(parrot, "bc");
        for (int wrong : new int[] {MIN, -30, -1, 0, 31, 32, MAX}) {
            Check.dueRefused(parrot, "passDays(" + wrong + ")", NO_ARGUMENT,
                    () -> parrot.passDays(wrong));
            Check.dueRefused(parrot, "repeatAfter(" + wrong + ")", NO_ARGUMENT,
                    () -> parrot.repeatAfter(wrong));
        }
        for (int days = 1; days <= 30; days++) {
            ParrotSquawks living = Check.taught("hear a;");
            Check.due("repeatAfter(" + days + ")", living.repeatAfter(days), days - 1);
            Check.due("passDays(" + days + ")", living.passDays(days), days);
            Check.due("day()", living.day(), days);
        }
    }

    private static ParrotSquawks rich() {
        ParrotSquawks parrot = Check.taught("insult ab; insult cab; hear abc; echo 2 when day > 0;"
                + "forget 1 when longest > 3;");
        parrot.passDays(2);
        Check.hear(parrot, "cabx");
        Check.teach(parrot, "hear 1;");
        Check.feed(parrot, stretched("insult xy; hear xyx; mock xy;"));
        return parrot;
    }

    /** A tape of 1981 bytes, so that feed() is refused. */
    private static String stretched(String plan) {
        return plan + " ".repeat(1981 - plan.length());
    }

    private static void refuseAll(ParrotSquawks parrot) {
        Check.dueThrow("feed", IllegalStateException.class, () -> parrot.feed(1, 2, 3, 4, 5));
        Check.dueNoArgument("trim", () -> parrot.trim(1982));
        Check.dueNoArgument("trim", () -> parrot.trim(-1));
        int there = parrot.length();
        for (int wrong : new int[] {-1, there}) {
            Check.dueNoPlace("letterAt", () -> parrot.letterAt(wrong));
            Check.dueNoPlace("rankOf", () -> parrot.rankOf(wrong));
            Check.dueNoPlace("placeAt", () -> parrot.placeAt(wrong));
            Check.dueNoPlace("sharedAt", () -> parrot.sharedAt(wrong));
            Check.dueNoPlace("shared", () -> parrot.shared(0, wrong));
            Check.dueNoPlace("isAhead", () -> ahead(parrot, wrong, 0));
        }
        for (int wrong : new int[] {-1, 2}) {
            Check.dueNoPlace("lettersOf", () -> parrot.lettersOf(wrong));
            Check.dueNoPlace("countOf", () -> parrot.countOf(wrong));
            Check.dueNoPlace("firstOf", () -> parrot.firstOf(wrong));
            Check.dueNoPlace("lastOf", () -> parrot.lastOf(wrong));
            Check.dueNoPlace("stepsTo", () -> parrot.stepsTo(wrong));
            Check.dueNoPlace("mock", () -> parrot.mock(wrong));
            Check.dueNoPlace("daysUntilKnown", () -> parrot.daysUntilKnown(wrong));
        }
        for (int wrong : new int[] {0, 41}) {
            Check.dueNoArgument("kindsOf", () -> parrot.kindsOf(wrong));
            Check.dueNoArgument("repeatedOf", () -> parrot.repeatedOf(wrong));
            Check.dueNoArgument("hear", () -> parrot.hear(wrong));
            Check.dueNoArgument("echo", () -> parrot.echo(wrong));
            Check.dueNoArgument("forget", () -> parrot.forget(wrong));
            Check.dueNoArgument("passDays", () -> parrot.passDays(wrong));
            Check.dueNoArgument("repeatAfter", () -> parrot.repeatAfter(wrong));
        }
        Check.dueNoArgument("echo", () -> parrot.echo(there + 1));
        Check.dueNoArgument("forget", () -> parrot.forget(there + 1));
    }

    private static void dueAlike(String when, ParrotSquawks parrot, ParrotSquawks twin) {
        Check.due(when + " digest()", parrot.digest(), twin.digest());
        Check.due(when + " errorAt()", parrot.errorAt(), twin.errorAt());
        Check.dueMean(when + " meanShared()", parrot.meanShared(), twin.meanShared());
        Check.due(when + " bestLetter()", parrot.bestLetter(), twin.bestLetter());
        Check.due(when + " repeatAfter(3)", parrot.repeatAfter(3), twin.repeatAfter(3));
        for (int letters = 1; letters <= 40; letters++) {
            Check.due(when + " kindsOf()", parrot.kindsOf(letters), twin.kindsOf(letters));
            Check.due(when + " repeatedOf()", parrot.repeatedOf(letters),
                    twin.repeatedOf(letters));
        }
    }

    private static void refusedCallsChangeNothing() {
        Check.sentence("A method that throws an exception changes nothing");
        ParrotSquawks parrot = rich();
        ParrotSquawks twin = rich();
        refuseAll(parrot);
        dueAlike("behind what was refused:", parrot, twin);
        Check.due("a day", parrot.passDays(1), twin.passDays(1));
        dueAlike("behind a day:", parrot, twin);
        refuseAll(parrot);
        Check.due("the tape", parrot.trim(1981), 1981);
        Check.due("teach() of the tape", parrot.teach(), 0);
        Check.due("insults() of it", parrot.insults(), 1);
        twin.teach();
        parrot.passDays(2);
        twin.passDays(2);
        Check.dueLetters("behind two days of it", parrot, "xyxxyxyxxy");
        dueAlike("behind two days of it:", parrot, twin);
    }

    // ---- teach

    private static void errorAtOfTheLatestTeach() {
        Check.sentence("Returns the position of the error of the latest teach(); -1 if it had "
                + "none, or there was none");
        ParrotSquawks parrot = new ParrotSquawks();
        Check.due("no teach()", parrot.errorAt(), -1);
        Check.feed(parrot, "?");
        Check.due("not taught yet", parrot.errorAt(), -1);
        Check.due("teach()", parrot.teach(), 1);
        Check.due("an error at 0", parrot.errorAt(), 0);
        Check.teach(parrot, " ?");
        Check.due("an error at 1", parrot.errorAt(), 1);
        Check.teach(parrot, " ".repeat(1999) + "?");
        Check.due("an error at 1999", parrot.errorAt(), 1999);
        Check.teach(parrot, " ".repeat(1996) + "hear");
        Check.due("an error at 2000", parrot.errorAt(), 2000);
        Check.teach(parrot, "mock a;");
        Check.due("the latest one", parrot.errorAt(), 5);
        parrot.trim(0);
        parrot.hear(1);
        parrot.passDays(1);
        Check.due("it stays", parrot.errorAt(), 5);
        Check.teach(parrot, "hear a;");
        Check.due("the latest one had none", parrot.errorAt(), -1);
        Check.teach(parrot, "hear a1;");
        Check.due("the latest one", parrot.errorAt(), 5);
        parrot.teach();
        Check.due("the latest one was empty", parrot.errorAt(), -1);
    }

    private static void dueAnew(String plan, int insults) {
        ParrotSquawks parrot = Check.taught(EIGHT + "hear abc;".repeat(16));
        parrot.passDays(30);
        parrot.hear(26);
        parrot.digest();
        Check.due("teach() of " + plan, Check.teach(parrot, plan), 0);
        ParrotSquawks fresh = Check.taught(plan);
        Check.due("insults()", parrot.insults(), insults);
        Check.due("day()", parrot.day(), 0);
        Check.due("length()", parrot.length(), 0);
        Check.due("ordersCarriedOut()", parrot.ordersCarriedOut(), 0);
        dueAlike("taught anew:", parrot, fresh);
        Check.due("a day", parrot.passDays(1), fresh.passDays(1));
        dueAlike("a day of what was taught anew:", parrot, fresh);
    }

    private static void allBeginsAnew() {
        Check.sentence("Reads the tape as a plan, in the place of all that was told before; all "
                + "begins anew, in the day 0, and nothing is remembered");
        String[] plans = {"", " ", "insult ab;", "hear a;",
            "insult abcdefghij; mock abcdefghij; hear klmnopqrst; forget 3 when day = 1;",
            "insult ab; mock ab; echo 1; forget 1 when day = 0;", EIGHT + "mock h;".repeat(16)};
        int[] insults = {0, 0, 1, 0, 1, 1, 8};
        for (int i = 0; i < plans.length; i++) {
            dueAnew(plans[i], insults[i]);
        }
        dueOneBehindTheOther(plans);
        dueManyLongPlans();
    }

    private static void dueOneBehindTheOther(String[] plans) {
        for (String between : new String[] {"", "insult abcde; hear abcde; echo 1 when [(", "?"}) {
            ParrotSquawks parrot = new ParrotSquawks();
            for (int i = 0; i < plans.length * 3; i++) {
                String plan = plans[i * 3 % plans.length];
                Check.teach(parrot, between);
                Check.due("teach() of " + plan, Check.teach(parrot, plan), 0);
                parrot.passDays(2);
                ParrotSquawks fresh = Check.taught(plan);
                fresh.passDays(2);
                Check.due("digest() with " + plan, parrot.digest(), fresh.digest());
            }
        }
    }

    /** As many steps as a plan can have, time and again. */
    private static void dueManyLongPlans() {
        ParrotSquawks parrot = new ParrotSquawks();
        for (int i = 0; i < 10; i++) {
            String plan = "hear abc; forget " + "1+".repeat(194) + (i % 3) + " - 194;";
            Check.due("teach() of a long plan", Check.teach(parrot, plan), 0);
            Check.due("a day", parrot.passDays(1), i % 3 == 0 ? 1 : 2);
            Check.due("length()", parrot.length(), 3 - i % 3);
        }
    }

    private static void allStaysWithAnError() {
        Check.sentence("If it has an error, all stays");
        String[] wrong = {"?", "hear xy", "insult q; insult q;", "insult q; mock r;",
            EIGHT + "insult i;", "hear x;".repeat(17), "insult q; hear q; hear x1;",
            "echo 1" + "+1".repeat(300) + ";"};
        int[] errors = {1, 1, 2, 3, 4, 4, 5, 1};
        for (int i = 0; i < wrong.length; i++) {
            ParrotSquawks parrot = Check.taught("insult ab; hear abc; mock ab when day > 0;");
            ParrotSquawks twin = Check.taught("insult ab; hear abc; mock ab when day > 0;");
            parrot.passDays(2);
            twin.passDays(2);
            Check.due("teach() of " + wrong[i], Check.teach(parrot, wrong[i]), errors[i]);
            Check.due("digest() behind " + wrong[i], parrot.digest(), twin.digest());
            Check.due("lettersOf(0)", parrot.lettersOf(0), 2);
            Check.due("a day", parrot.passDays(1), 2);
            parrot.mock(0);
            Check.dueLetters("by the former plan", parrot, "abcabcababcabab");
        }
    }

    // ---- what would be

    private static void daysThatWouldBe() {
        Check.sentence("behind them, if nothing is done by hand (nothing is changed)");
        for (int before = 0; before <= 3; before++) {
            for (int days = 1; days <= 30; days++) {
                ParrotSquawks parrot = Check.taught("hear ab when day < 9; echo day when day > 9;"
                        + "forget 3 when longest > 6;");
                for (int i = 0; i < before; i++) {
                    parrot.passDays(1);
                    parrot.hear(3);
                }
                long digest = parrot.digest();
                int repeat = parrot.repeatAfter(days);
                Check.due("nothing is changed", parrot.digest(), digest);
                parrot.passDays(days);
                Check.due("repeatAfter(" + days + ")", repeat, parrot.longestRepeat());
            }
        }
    }

    private static void repeatBehindDays() {
        Check.sentence("Returns how many letters the longest repeat has behind them");
        ParrotSquawks parrot = Check.taught("hear ab when day = 0; hear ab when day = 29;"
                + "hear ab when day = 30;");
        Check.due("repeatAfter(1)", parrot.repeatAfter(1), 0);
        Check.due("repeatAfter(29)", parrot.repeatAfter(29), 0);
        Check.due("repeatAfter(30)", parrot.repeatAfter(30), 2);
        parrot.passDays(1);
        Check.due("repeatAfter(28) from the day 1", parrot.repeatAfter(28), 0);
        Check.due("repeatAfter(29) from the day 1", parrot.repeatAfter(29), 2);
        Check.due("repeatAfter(30) from the day 1", parrot.repeatAfter(30), 4);
        ParrotSquawks idle = new ParrotSquawks();
        Check.due("repeatAfter(30) of nothing", idle.repeatAfter(30), 0);
    }

    private static void daysUntilKnown() {
        Check.sentence("Returns behind how many days it is known: 0 if it is now, at most 30; -1 "
                + "if not by then");
        for (int day = 0; day <= 32; day++) {
            ParrotSquawks parrot = Check.taught("insult ab; hear ab when day = " + day + ";");
            Check.due("heard in the day " + day, parrot.daysUntilKnown(0),
                    day < 30 ? day + 1 : -1);
            parrot.passDays(1);
            Check.due("heard in the day " + day + ", from the day 1", parrot.daysUntilKnown(0),
                    day == 0 ? 0 : day < 31 ? day : -1);
        }
        ParrotSquawks parrot = Check.taught("insult ab; forget 1;");
        Check.due("not ever", parrot.daysUntilKnown(0), -1);
        Check.hear(parrot, "ab");
        Check.due("now", parrot.daysUntilKnown(0), 0);
        parrot.passDays(1);
        Check.due("not any more", parrot.daysUntilKnown(0), -1);
        ParrotSquawks inside = Check.taught("insult ab; hear ab; forget 2;");
        Check.due("only inside of the days", inside.daysUntilKnown(0), -1);
    }

    private static void questionsChangeNothing() {
        Check.sentence("(nothing is changed)");
        ParrotSquawks parrot = rich();
        ParrotSquawks twin = rich();
        for (int i = 0; i < 3; i++) {
            parrot.repeatAfter(30);
            parrot.daysUntilKnown(0);
            parrot.daysUntilKnown(1);
            parrot.bestLetter();
        }
        dueAlike("behind the questions:", parrot, twin);
        Check.due("three days", parrot.passDays(3), twin.passDays(3));
        dueAlike("behind three days:", parrot, twin);
        Check.due("the tape", parrot.trim(1981), 1981);
    }

    private static void dueBest(String letters, int want) {
        Check.due("bestLetter() of " + letters, Check.heard(letters).bestLetter(), want);
    }

    private static void bestLetterOfSeveral() {
        Check.sentence("Returns the letter, 1 to 26, that had best be heard next, of several the "
                + "smallest");
        dueBest("", 1);
        dueBest("a", 1);
        dueBest("b", 2);
        dueBest("y", 25);
        dueBest("z", 26);
        dueBest("zy", 25);
        dueBest("yz", 25);
        dueBest("az", 1);
        dueBest("aa", 1);
        dueBest("zz", 26);
        dueBest("abzab", 26);
        // As long as it is without it, whatever is heard.
        dueBest("aab", 1);
        dueBest("zzy", 1);
        dueBest("zxzy", 1);
        // Of a longer one by c or by b the smaller letter.
        dueBest("acaba", 2);
        dueBest("abaca", 2);
        dueBest("azaya", 25);
        dueBest("a".repeat(38), 1);
        dueBest("z".repeat(39), 26);
        dueBest("z".repeat(40), 26);
    }

    private static void bestLetterAt40() {
        Check.sentence("had best be heard next: as one is heard with 40 there, the first one is "
                + "forgotten");
        // To hear c makes bc stand there twice, as long as the first b is not forgotten.
        String letters = "bcadefghijklmnopqrstuvwxyzzyxwvutsrqponmlk";
        dueBest(letters.substring(0, 37) + "b", 3);
        dueBest(letters.substring(0, 38) + "b", 3);
        dueBest(letters.substring(0, 39) + "b", 1);
        ParrotSquawks parrot = Check.heard(letters.substring(0, 39) + "b");
        Check.dueLetters("nothing is changed:", parrot, letters.substring(0, 39) + "b");
    }

    // ---- the digest

    private static BigInteger joined(BigInteger d, long x) {
        return d.multiply(BigInteger.valueOf(31)).add(BigInteger.valueOf(x));
    }

    private static long digestOf(ParrotSquawks parrot) {
        BigInteger d = BigInteger.valueOf(1069);
        long[] front = {parrot.length(), parrot.insults(), parrot.day(),
            parrot.ordersCarriedOut(), parrot.kinds(), parrot.longestRepeat(),
            parrot.repeatPlace(), parrot.repeatCount(), parrot.mockedAtEnd(), parrot.mostSaid()};
        for (long number : front) {
            d = joined(d, number);
        }
        for (int place = 0; place < parrot.length(); place++) {
            d = joined(joined(d, parrot.letterAt(place)), parrot.rankOf(place));
        }
        for (int rank = 0; rank < parrot.length(); rank++) {
            d = joined(d, parrot.sharedAt(rank));
        }
        for (int insult = 0; insult < parrot.insults(); insult++) {
            d = joined(joined(d, parrot.countOf(insult)), parrot.firstOf(insult));
            d = joined(joined(d, parrot.lastOf(insult)), parrot.stepsTo(insult));
        }
        return d.longValue();
    }

    private static void digestWrapsAround() {
        Check.sentence("d becomes d * 31 + x, which wraps around as a 64-bit integer");
        for (int there : new int[] {0, 1, 2, 3, 39, 40}) {
            for (int insults : new int[] {0, 1, 8}) {
                ParrotSquawks parrot = Check.taught(EIGHT.substring(0, 9 * insults) + "hear abc;");
                parrot.passDays(1);
                parrot.forget(3);
                Check.hear(parrot, FULL.substring(0, there));
                Check.due("digest() with " + there + " and " + insults, parrot.digest(),
                        digestOf(parrot));
            }
        }
        // Its ten numbers alone do not wrap around.
        ParrotSquawks fresh = new ParrotSquawks();
        Check.due("digest() of a new one", fresh.digest(), digestOf(fresh));
    }

    // ---- 512 calls

    private static void upTo512Calls() {
        Check.sentence("An object is used for at most 512 calls");
        ParrotSquawks hearing = new ParrotSquawks();
        for (int call = 1; call <= 511; call++) {
            Check.due("hear()", hearing.hear(1 + call % 26), Math.min(40, call));
        }
        Check.due("the 512th call", hearing.length(), 40);
        ParrotSquawks living = Check.taught("hear abcdefghij when day >= 0;".repeat(16));
        int calls = 16 * 30 / 20 + 2;
        for (int call = calls + 1; call <= 511; call++) {
            Check.due("passDays(30)", living.passDays(30), 480);
        }
        Check.due("the 512th call", living.day(), (511 - calls) * 30);
        ParrotSquawks learning = new ParrotSquawks();
        for (int call = 0; call < 256; call++) {
            learning.feed(0x68656172, 0x20616263, 0x64656667, 0x68696a3b, 0x20202020);
            Check.due("teach()", learning.teach(), 0);
        }
    }
}
