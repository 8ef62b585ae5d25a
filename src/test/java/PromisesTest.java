import java.util.function.IntToLongFunction;

/** The promises of the document, one after the other, but those of the language's inside. */
public final class PromisesTest {

    private static final int[] WILD = {Integer.MIN_VALUE, -1000000, -41, -2, -1, 2001, 1000000,
        Integer.MAX_VALUE};

    private PromisesTest() {
    }

    public static void main(String[] args) {
        promise1NewObject();
        promise2Feed();
        promise3Trim();
        promise4Teach();
        promise4TeachWithAnError();
        promise5ErrorAt();
        promise6Length();
        promise7Insults();
        promise8Day();
        promise9OrdersCarriedOut();
        promise10Kinds();
        promise11LetterAt();
        promises12And13Ranks();
        promise14SharedAt();
        promise15Shared();
        promise16IsAhead();
        promises17To19LongestRepeat();
        promise20KindsOf();
        promise21RepeatedOf();
        promise22MockedAtEnd();
        promise23LettersOf();
        promises24To26PlacesOfInsults();
        promise27StepsTo();
        promise28MostSaid();
        promise29Hear();
        promise30Mock();
        promise31Echo();
        promise32Forget();
        promise33PassDays();
        promise34RepeatAfter();
        promise35DaysUntilKnown();
        promise36BestLetter();
        promise37MeanShared();
        promise38Digest();
        Check.end();
    }

    private static void dueWildNoPlace(String name, IntToLongFunction call) {
        for (int wild : WILD) {
            Check.dueNoPlace(name + "(" + wild + ")", () -> call.applyAsLong(wild));
        }
    }

    private static void dueWildNoArgument(String name, IntToLongFunction call) {
        for (int wild : WILD) {
            Check.dueNoArgument(name + "(" + wild + ")", () -> call.applyAsLong(wild));
        }
    }

    private static void promise1NewObject() {
        ParrotSquawks parrot = new ParrotSquawks();
        Check.due("new: length()", parrot.length(), 0);
        Check.due("new: insults()", parrot.insults(), 0);
        Check.due("new: day()", parrot.day(), 0);
        Check.due("new: ordersCarriedOut()", parrot.ordersCarriedOut(), 0);
        Check.due("new: trim(0)", parrot.trim(0), 0);
        Check.dueNoArgument("new: trim(1)", () -> parrot.trim(1));
        Check.due("new: passDays(30)", parrot.passDays(30), 0);
        ParrotSquawks other = new ParrotSquawks();
        other.hear(1);
        Check.due("one parrot does not hear for another", parrot.length(), 0);
    }

    private static void promise2Feed() {
        ParrotSquawks parrot = new ParrotSquawks();
        // insult abcdefghi ;
        Check.due("feed", parrot.feed(0x696e7375, 0x6c742061, 0x62636465, 0x66676869, 0x203b2020),
                20);
        Check.due("teach() of what was fed", parrot.teach(), 0);
        Check.due("lettersOf(0)", parrot.lettersOf(0), 9);
        parrot.mock(0);
        Check.dueLetters("behind mock(0)", parrot, "abcdefghi");
        for (int i = 1; i <= 100; i++) {
            Check.due("feed number " + i, parrot.feed(-1, -1, -1, -1, -1), i * 20);
        }
        Check.dueThrow("feed with 2000 bytes", IllegalStateException.class,
                () -> parrot.feed(0, 0, 0, 0, 0));
        Check.due("trim(1981)", parrot.trim(1981), 1981);
        Check.dueThrow("feed with 1981 bytes", IllegalStateException.class,
                () -> parrot.feed(0, 0, 0, 0, 0));
        Check.due("the tape stays as it is", parrot.trim(1981), 1981);
        Check.due("trim(1980)", parrot.trim(1980), 1980);
        Check.due("feed with 1980 bytes", parrot.feed(0, 0, 0, 0, 0), 2000);
    }

    private static void promise3Trim() {
        ParrotSquawks parrot = new ParrotSquawks();
        Check.dueNoArgument("trim(1) of nothing", () -> parrot.trim(1));
        Check.feed(parrot, "insult ab; insult cd;");
        Check.dueNoArgument("trim(22) of 21", () -> parrot.trim(22));
        Check.dueNoArgument("trim(-1)", () -> parrot.trim(-1));
        dueWildNoArgument("trim", parrot::trim);
        Check.due("trim(21) of 21", parrot.trim(21), 21);
        Check.due("trim(10)", parrot.trim(10), 10);
        Check.due("teach() of the first ten bytes", parrot.teach(), 0);
        Check.due("insults()", parrot.insults(), 1);
        Check.feed(parrot, "insult ab;");
        Check.due("trim(0)", parrot.trim(0), 0);
        Check.due("teach() of nothing", parrot.teach(), 0);
        Check.due("insults()", parrot.insults(), 0);
    }

    private static void promise4Teach() {
        ParrotSquawks parrot = Check.taught("insult ab; insult c; hear abc;");
        parrot.passDays(3);
        Check.due("longestRepeat() by the first plan", parrot.longestRepeat(), 6);
        Check.due("teach() of another plan", Check.teach(parrot, "insult xyz; mock xyz;"), 0);
        Check.due("insults()", parrot.insults(), 1);
        Check.due("lettersOf(0)", parrot.lettersOf(0), 3);
        Check.due("length()", parrot.length(), 0);
        Check.due("day()", parrot.day(), 0);
        Check.due("ordersCarriedOut()", parrot.ordersCarriedOut(), 0);
        Check.due("kinds()", parrot.kinds(), 0);
        Check.due("longestRepeat()", parrot.longestRepeat(), 0);
        Check.due("the tape is empty: trim(0)", parrot.trim(0), 0);
        Check.dueNoArgument("the tape is empty: trim(1)", () -> parrot.trim(1));
        parrot.passDays(1);
        Check.dueLetters("behind a day of the new plan", parrot, "xyz");
        Check.due("teach() of an empty tape", parrot.teach(), 0);
        Check.due("insults() of the empty plan", parrot.insults(), 0);
        Check.due("passDays(1) of the empty plan", parrot.passDays(1), 0);
    }

    private static void promise4TeachWithAnError() {
        ParrotSquawks parrot = Check.taught("insult ab; hear abc; mock ab when day > 0;");
        parrot.passDays(2);
        parrot.hear(26);
        Check.due("teach() with an error", Check.teach(parrot, "insult q; hear rs; mock t;"), 3);
        Check.dueLetters("all stays,", parrot, "abcabcabz");
        Check.due("insults() stays", parrot.insults(), 1);
        Check.due("lettersOf(0) stays", parrot.lettersOf(0), 2);
        Check.due("day() stays", parrot.day(), 2);
        Check.due("ordersCarriedOut() stays", parrot.ordersCarriedOut(), 3);
        Check.dueNoArgument("but the tape is empty", () -> parrot.trim(1));
        Check.due("passDays(1) by the old plan", parrot.passDays(1), 2);
        Check.dueLetters("behind a day of the old plan", parrot, "abcabcabzabcab");
    }

    private static void promise5ErrorAt() {
        ParrotSquawks parrot = new ParrotSquawks();
        Check.due("new: errorAt()", parrot.errorAt(), -1);
        Check.due("teach() of a bad plan", Check.teach(parrot, "insult a; hear b c;"), 1);
        Check.due("errorAt()", parrot.errorAt(), 17);
        Check.feed(parrot, "insult a;");
        Check.due("errorAt() stays till the next teach()", parrot.errorAt(), 17);
        Check.due("teach() of a good plan", parrot.teach(), 0);
        Check.due("errorAt() without an error", parrot.errorAt(), -1);
        Check.due("teach() of a bad byte", Check.teach(parrot, "?"), 1);
        Check.due("errorAt() at the beginning", parrot.errorAt(), 0);
    }

    private static void promise6Length() {
        ParrotSquawks parrot = new ParrotSquawks();
        for (int i = 1; i <= 45; i++) {
            parrot.hear(1 + i % 26);
            Check.due("length() behind " + i + " letters", parrot.length(), Math.min(i, 40));
        }
        parrot.forget(40);
        Check.due("length() with all forgotten", parrot.length(), 0);
    }

    private static void promise7Insults() {
        Check.due("insults()", Check.taught("hear abc;").insults(), 0);
        Check.due("insults()", Check.taught("insult a; hear abc; insult b;").insults(), 2);
        Check.due("insults()", Check.taught("insult a; insult b; insult c; insult d; insult e;"
                + "insult f; insult g; insult h;").insults(), 8);
    }

    private static void promise8Day() {
        ParrotSquawks parrot = Check.taught("hear a when day = 2;");
        parrot.passDays(2);
        Check.due("day()", parrot.day(), 2);
        Check.due("nothing in the days 0 and 1", parrot.length(), 0);
        parrot.passDays(30);
        Check.due("day()", parrot.day(), 32);
        Check.due("one letter in the day 2", parrot.length(), 1);
    }

    private static void promise9OrdersCarriedOut() {
        ParrotSquawks parrot = Check.taught(
                "insult a; forget 1; echo 0; echo -3; hear b; mock a; echo 99; forget 2;");
        parrot.passDays(1);
        Check.due("an order without a letter does not count", parrot.ordersCarriedOut(), 4);
        Check.dueLetters("behind a day", parrot, "ba");
        parrot.hear(3);
        parrot.mock(0);
        parrot.echo(1);
        parrot.forget(1);
        Check.due("nothing by hand counts", parrot.ordersCarriedOut(), 4);
        parrot.passDays(1);
        Check.due("ordersCarriedOut()", parrot.ordersCarriedOut(), 9);
        parrot.repeatAfter(5);
        Check.due("nothing that would be counts", parrot.ordersCarriedOut(), 9);
    }

    private static void promise10Kinds() {
        Check.due("kinds() of nothing", Check.heard("").kinds(), 0);
        Check.due("kinds() of a", Check.heard("a").kinds(), 1);
        Check.due("kinds() of aaaa", Check.heard("aaaa").kinds(), 4);
        Check.due("kinds() of abc", Check.heard("abc").kinds(), 6);
        Check.due("kinds() of banana", Check.heard("banana").kinds(), 15);
        Check.due("kinds() of 40 a", Check.heard("a".repeat(40)).kinds(), 40);
        ParrotSquawks parrot = Check.heard("abc");
        parrot.forget(1);
        Check.due("kinds() behind forget", parrot.kinds(), 3);
    }

    private static void promise11LetterAt() {
        ParrotSquawks parrot = Check.heard("azm");
        Check.due("letterAt(0)", parrot.letterAt(0), 1);
        Check.due("letterAt(1)", parrot.letterAt(1), 26);
        Check.due("letterAt(2)", parrot.letterAt(2), 13);
        Check.dueNoPlace("letterAt(3) of three", () -> parrot.letterAt(3));
        dueWildNoPlace("letterAt", parrot::letterAt);
        parrot.forget(3);
        Check.dueNoPlace("letterAt(0) of none", () -> parrot.letterAt(0));
    }

    private static void promises12And13Ranks() {
        ParrotSquawks parrot = Check.heard("banana");
        int[] places = {5, 3, 1, 0, 4, 2};
        for (int rank = 0; rank < 6; rank++) {
            Check.due("banana: placeAt(" + rank + ")", parrot.placeAt(rank), places[rank]);
            Check.due("banana: rankOf(" + places[rank] + ")", parrot.rankOf(places[rank]), rank);
        }
        Check.dueNoPlace("rankOf(6) of six", () -> parrot.rankOf(6));
        Check.dueNoPlace("placeAt(6) of six", () -> parrot.placeAt(6));
        dueWildNoPlace("rankOf", parrot::rankOf);
        dueWildNoPlace("placeAt", parrot::placeAt);
        parrot.hear(26);
        Check.due("bananaz: rankOf(5)", parrot.rankOf(5), 2);
        ParrotSquawks same = Check.heard("a".repeat(40));
        Check.due("40 a: rankOf(0)", same.rankOf(0), 39);
        Check.due("40 a: placeAt(0)", same.placeAt(0), 39);
        ParrotSquawks none = Check.heard("");
        Check.dueNoPlace("rankOf(0) of none", () -> none.rankOf(0));
        Check.dueNoPlace("placeAt(0) of none", () -> none.placeAt(0));
    }

    private static void promise14SharedAt() {
        ParrotSquawks parrot = Check.heard("banana");
        int[] shared = {0, 1, 3, 0, 0, 2};
        for (int rank = 0; rank < 6; rank++) {
            Check.due("banana: sharedAt(" + rank + ")", parrot.sharedAt(rank), shared[rank]);
        }
        Check.dueNoPlace("sharedAt(6) of six", () -> parrot.sharedAt(6));
        dueWildNoPlace("sharedAt", parrot::sharedAt);
        ParrotSquawks none = Check.heard("");
        Check.dueNoPlace("sharedAt(0) of none", () -> none.sharedAt(0));
    }

    private static void promise15Shared() {
        ParrotSquawks parrot = Check.heard("banana");
        Check.due("shared(1, 3)", parrot.shared(1, 3), 3);
        Check.due("shared(3, 1)", parrot.shared(3, 1), 3);
        Check.due("shared(0, 1)", parrot.shared(0, 1), 0);
        Check.due("shared(0, 0)", parrot.shared(0, 0), 6);
        Check.due("shared(5, 5)", parrot.shared(5, 5), 1);
        Check.due("shared(2, 4)", parrot.shared(2, 4), 2);
        Check.dueNoPlace("shared(6, 0)", () -> parrot.shared(6, 0));
        Check.dueNoPlace("shared(0, 6)", () -> parrot.shared(0, 6));
        dueWildNoPlace("shared 0 and", wild -> parrot.shared(0, wild));
        dueWildNoPlace("shared with 0", wild -> parrot.shared(wild, 0));
        dueWildNoPlace("shared of both", wild -> parrot.shared(wild, wild));
    }

    private static void promise16IsAhead() {
        ParrotSquawks parrot = Check.heard("banana");
        Check.due("isAhead(5, 3)", parrot.isAhead(5, 3), true);
        Check.due("isAhead(3, 5)", parrot.isAhead(3, 5), false);
        Check.due("isAhead(1, 0)", parrot.isAhead(1, 0), true);
        Check.due("isAhead(2, 2)", parrot.isAhead(2, 2), false);
        Check.dueNoPlace("isAhead(6, 0)", () -> parrot.isAhead(6, 0) ? 1 : 0);
        Check.dueNoPlace("isAhead(0, 6)", () -> parrot.isAhead(0, 6) ? 1 : 0);
        dueWildNoPlace("isAhead 0 and", wild -> parrot.isAhead(0, wild) ? 1 : 0);
        dueWildNoPlace("isAhead with 0", wild -> parrot.isAhead(wild, 0) ? 1 : 0);
    }

    private static void dueRepeat(String letters, int longest, int place, int count) {
        ParrotSquawks parrot = Check.heard(letters);
        Check.due(letters + ": longestRepeat()", parrot.longestRepeat(), longest);
        Check.due(letters + ": repeatPlace()", parrot.repeatPlace(), place);
        Check.due(letters + ": repeatCount()", parrot.repeatCount(), count);
    }

    private static void promises17To19LongestRepeat() {
        dueRepeat("", 0, -1, 0);
        dueRepeat("a", 0, -1, 0);
        dueRepeat("abc", 0, -1, 0);
        dueRepeat("banana", 3, 1, 2);
        dueRepeat("aaaaa", 4, 0, 2);
        dueRepeat("xyxabab", 2, 3, 2);
        dueRepeat("zyqzyqaba", 3, 0, 2);
        // Of zy and ab, as long as each other, ab comes ahead, and it stands three times.
        dueRepeat("zyczydabeabfabg", 2, 6, 3);
        dueRepeat("cacbcdce", 1, 0, 4);
        dueRepeat("a".repeat(40), 39, 0, 2);
    }

    private static void promise20KindsOf() {
        ParrotSquawks parrot = Check.heard("banana");
        int[] kinds = {3, 3, 3, 3, 2, 1, 0};
        for (int letters = 1; letters <= 7; letters++) {
            Check.due("banana: kindsOf(" + letters + ")", parrot.kindsOf(letters),
                    kinds[letters - 1]);
        }
        Check.due("banana: kindsOf(40)", parrot.kindsOf(40), 0);
        Check.dueNoArgument("kindsOf(0)", () -> parrot.kindsOf(0));
        Check.dueNoArgument("kindsOf(41)", () -> parrot.kindsOf(41));
        dueWildNoArgument("kindsOf", parrot::kindsOf);
        Check.due("40 a: kindsOf(40)", Check.heard("a".repeat(40)).kindsOf(40), 1);
        Check.due("nothing: kindsOf(1)", Check.heard("").kindsOf(1), 0);
    }

    private static void promise21RepeatedOf() {
        ParrotSquawks parrot = Check.heard("banana");
        int[] repeated = {2, 2, 1, 0, 0, 0};
        for (int letters = 1; letters <= 6; letters++) {
            Check.due("banana: repeatedOf(" + letters + ")", parrot.repeatedOf(letters),
                    repeated[letters - 1]);
        }
        Check.due("banana: repeatedOf(40)", parrot.repeatedOf(40), 0);
        Check.dueNoArgument("repeatedOf(0)", () -> parrot.repeatedOf(0));
        Check.dueNoArgument("repeatedOf(41)", () -> parrot.repeatedOf(41));
        dueWildNoArgument("repeatedOf", parrot::repeatedOf);
        Check.due("40 a: repeatedOf(39)", Check.heard("a".repeat(40)).repeatedOf(39), 1);
        Check.due("nothing: repeatedOf(1)", Check.heard("").repeatedOf(1), 0);
    }

    private static void promise22MockedAtEnd() {
        Check.due("mockedAtEnd() of nothing", Check.heard("").mockedAtEnd(), 0);
        Check.due("mockedAtEnd() of a", Check.heard("a").mockedAtEnd(), 0);
        Check.due("mockedAtEnd() of aab", Check.heard("aab").mockedAtEnd(), 0);
        Check.due("mockedAtEnd() of banana", Check.heard("banana").mockedAtEnd(), 3);
        Check.due("mockedAtEnd() of aaaa", Check.heard("aaaa").mockedAtEnd(), 3);
        Check.due("mockedAtEnd() of abcxbcab", Check.heard("abcxbcab").mockedAtEnd(), 2);
        // The longest repeat is abc, but only c of it stands at the end.
        Check.due("mockedAtEnd() of abcabcxc", Check.heard("abcabcxc").mockedAtEnd(), 1);
    }

    private static void promise23LettersOf() {
        ParrotSquawks parrot = Check.taught("insult a; insult abcdefghij; insult bcd;");
        Check.due("lettersOf(0)", parrot.lettersOf(0), 1);
        Check.due("lettersOf(1)", parrot.lettersOf(1), 10);
        Check.due("lettersOf(2)", parrot.lettersOf(2), 3);
        Check.dueNoPlace("lettersOf(3) of three", () -> parrot.lettersOf(3));
        dueWildNoPlace("lettersOf", parrot::lettersOf);
        Check.dueNoPlace("lettersOf(0) of none", () -> Check.heard("a").lettersOf(0));
    }

    private static void duePlaces(ParrotSquawks parrot, int insult, int count, int first,
            int last) {
        Check.due("countOf(" + insult + ")", parrot.countOf(insult), count);
        Check.due("firstOf(" + insult + ")", parrot.firstOf(insult), first);
        Check.due("lastOf(" + insult + ")", parrot.lastOf(insult), last);
    }

    private static void promises24To26PlacesOfInsults() {
        ParrotSquawks parrot = Check.taught(
                "insult ana; insult banana; insult nab; insult a; insult bananas;");
        duePlaces(parrot, 3, 0, -1, -1);
        Check.hear(parrot, "banana");
        duePlaces(parrot, 0, 2, 1, 3);
        duePlaces(parrot, 1, 1, 0, 0);
        duePlaces(parrot, 2, 0, -1, -1);
        duePlaces(parrot, 3, 3, 1, 5);
        duePlaces(parrot, 4, 0, -1, -1);
        parrot.forget(2);
        duePlaces(parrot, 0, 1, 1, 1);
        Check.dueNoPlace("countOf(5) of five", () -> parrot.countOf(5));
        Check.dueNoPlace("firstOf(5) of five", () -> parrot.firstOf(5));
        Check.dueNoPlace("lastOf(5) of five", () -> parrot.lastOf(5));
        dueWildNoPlace("countOf", parrot::countOf);
        dueWildNoPlace("firstOf", parrot::firstOf);
        dueWildNoPlace("lastOf", parrot::lastOf);
    }

    private static void promise27StepsTo() {
        ParrotSquawks parrot = Check.taught("insult ana; insult a; insult zz; insult banana;");
        Check.due("stepsTo(0) of nothing", parrot.stepsTo(0), 0);
        Check.hear(parrot, "banana");
        // Sorted: a, ana, anana, banana, na, nana.
        Check.due("ana: banana, ana, a", parrot.stepsTo(0), 3);
        Check.due("a: banana, ana, a", parrot.stepsTo(1), 3);
        Check.due("zz: banana, nana", parrot.stepsTo(2), 2);
        Check.due("banana: banana, ana, anana", parrot.stepsTo(3), 3);
        Check.dueNoPlace("stepsTo(4) of four", () -> parrot.stepsTo(4));
        dueWildNoPlace("stepsTo", parrot::stepsTo);
        ParrotSquawks one = Check.taught("insult ab; insult b; insult a; insult abd;");
        one.hear(1);
        Check.due("ab in a: a is ahead", one.stepsTo(0), 1);
        Check.hear(one, "b");
        // Sorted: ab, b.
        Check.due("ab in ab: b, ab", one.stepsTo(0), 2);
        Check.due("b in ab: b, ab", one.stepsTo(1), 2);
        Check.hear(one, "c");
        // Sorted: abc, bc, c.
        Check.due("abd in abc: bc, abc", one.stepsTo(3), 2);
        Check.due("b in abc: bc, abc", one.stepsTo(1), 2);
        Check.hear(one, "ab");
        // Sorted: ab, abcab, b, bcab, cab; where the squawk is at its end, it comes ahead.
        Check.due("abd in abcab: b, abcab", one.stepsTo(3), 2);
        Check.due("ab in abcab: b, abcab, ab", one.stepsTo(0), 3);
        Check.due("a in abcab: b, abcab, ab", one.stepsTo(2), 3);
        Check.due("b in abcab: b, abcab", one.stepsTo(1), 2);
        ParrotSquawks ends = Check.taught("insult bbb; insult ba; insult bba;");
        Check.hear(ends, "abb");
        // Sorted: abb, b, bb.
        Check.due("bbb in abb: b, bb", ends.stepsTo(0), 2);
        Check.due("ba in abb: b, bb", ends.stepsTo(1), 2);
        Check.hear(ends, "b");
        // Sorted: abbb, b, bb, bbb.
        Check.due("bbb in abbb: bb, bbb", ends.stepsTo(0), 2);
        Check.due("ba in abbb: bb, b", ends.stepsTo(1), 2);
        Check.due("bba in abbb: bb, bbb", ends.stepsTo(2), 2);
    }

    private static void promise28MostSaid() {
        Check.due("mostSaid() without insults", Check.heard("aa").mostSaid(), -1);
        ParrotSquawks parrot = Check.taught("insult a; insult b; insult bb; insult c;");
        Check.due("mostSaid() with none said", parrot.mostSaid(), 0);
        parrot.hear(2);
        Check.due("mostSaid()", parrot.mostSaid(), 1);
        parrot.hear(1);
        Check.due("mostSaid() of several", parrot.mostSaid(), 0);
        Check.hear(parrot, "ccc");
        Check.due("mostSaid()", parrot.mostSaid(), 3);
    }

    private static void promise29Hear() {
        ParrotSquawks parrot = new ParrotSquawks();
        Check.due("hear(1)", parrot.hear(1), 1);
        Check.due("hear(26)", parrot.hear(26), 2);
        Check.dueNoArgument("hear(0)", () -> parrot.hear(0));
        Check.dueNoArgument("hear(27)", () -> parrot.hear(27));
        dueWildNoArgument("hear", parrot::hear);
        Check.dueLetters("nothing of that was heard:", parrot, "az");
        Check.hear(parrot, "b".repeat(38));
        Check.due("hear(3) with 40 there", parrot.hear(3), 40);
        Check.dueLetters("the first one is forgotten:", parrot, "z" + "b".repeat(38) + "c");
    }

    private static void promise30Mock() {
        ParrotSquawks parrot = Check.taught("insult abc; insult de;");
        Check.due("mock(1)", parrot.mock(1), 2);
        Check.due("mock(0)", parrot.mock(0), 5);
        Check.dueLetters("behind that", parrot, "deabc");
        Check.dueNoPlace("mock(2) of two", () -> parrot.mock(2));
        dueWildNoPlace("mock", parrot::mock);
        Check.dueLetters("nothing of that was heard:", parrot, "deabc");
        Check.hear(parrot, "f".repeat(34));
        Check.due("mock(0) with 39 there", parrot.mock(0), 40);
        Check.dueLetters("two are forgotten:", parrot, "abc" + "f".repeat(34) + "abc");
    }

    private static void promise31Echo() {
        ParrotSquawks parrot = new ParrotSquawks();
        Check.dueNoArgument("echo(1) of nothing", () -> parrot.echo(1));
        Check.hear(parrot, "abc");
        Check.due("echo(2)", parrot.echo(2), 5);
        Check.dueLetters("behind that", parrot, "abcbc");
        Check.dueNoArgument("echo(0)", () -> parrot.echo(0));
        Check.dueNoArgument("echo(6) of five", () -> parrot.echo(6));
        Check.dueNoArgument("echo(41)", () -> parrot.echo(41));
        dueWildNoArgument("echo", parrot::echo);
        Check.due("echo(5) of five", parrot.echo(5), 10);
        Check.hear(parrot, "defghijklmnopqrstuvwxyzabcde");
        Check.due("echo(5) with 38 there", parrot.echo(5), 40);
        Check.dueLetters("three are forgotten:", parrot,
                "bcabcbcdefghijklmnopqrstuvwxyzabcdeabcde");
        Check.due("echo(40) with 40 there", parrot.echo(40), 40);
        Check.dueLetters("all stand there again:", parrot,
                "bcabcbcdefghijklmnopqrstuvwxyzabcdeabcde");
        Check.dueNoArgument("echo(41) with 40 there", () -> parrot.echo(41));
    }

    private static void promise32Forget() {
        ParrotSquawks parrot = new ParrotSquawks();
        Check.dueNoArgument("forget(1) of nothing", () -> parrot.forget(1));
        Check.hear(parrot, "abcdef");
        Check.due("forget(2)", parrot.forget(2), 4);
        Check.dueLetters("behind that", parrot, "cdef");
        Check.dueNoArgument("forget(0)", () -> parrot.forget(0));
        Check.dueNoArgument("forget(5) of four", () -> parrot.forget(5));
        Check.dueNoArgument("forget(41)", () -> parrot.forget(41));
        dueWildNoArgument("forget", parrot::forget);
        Check.dueLetters("nothing of that was forgotten:", parrot, "cdef");
        Check.due("forget(4) of four", parrot.forget(4), 0);
        Check.hear(parrot, "a".repeat(40));
        Check.due("forget(40) of 40", parrot.forget(40), 0);
    }

    private static void promise33PassDays() {
        ParrotSquawks parrot = Check.taught("insult b; hear a; mock b when day < 2;");
        Check.dueNoArgument("passDays(0)", () -> parrot.passDays(0));
        Check.dueNoArgument("passDays(31)", () -> parrot.passDays(31));
        dueWildNoArgument("passDays", parrot::passDays);
        Check.due("no day has gone by", parrot.day(), 0);
        Check.due("passDays(1)", parrot.passDays(1), 2);
        Check.due("passDays(3)", parrot.passDays(3), 4);
        Check.dueLetters("behind that", parrot, "ababaa");
        Check.due("passDays(30)", parrot.passDays(30), 30);
        Check.due("day()", parrot.day(), 34);
    }

    private static void promise34RepeatAfter() {
        ParrotSquawks parrot = Check.taught("hear a when day < 3; hear b when day >= 3;");
        Check.dueNoArgument("repeatAfter(0)", () -> parrot.repeatAfter(0));
        Check.dueNoArgument("repeatAfter(31)", () -> parrot.repeatAfter(31));
        dueWildNoArgument("repeatAfter", parrot::repeatAfter);
        Check.due("repeatAfter(1)", parrot.repeatAfter(1), 0);
        Check.due("repeatAfter(2)", parrot.repeatAfter(2), 1);
        Check.due("repeatAfter(3)", parrot.repeatAfter(3), 2);
        Check.due("repeatAfter(30)", parrot.repeatAfter(30), 26);
        Check.due("length() is not changed", parrot.length(), 0);
        Check.due("day() is not changed", parrot.day(), 0);
        Check.due("ordersCarriedOut() is not changed", parrot.ordersCarriedOut(), 0);
        Check.due("longestRepeat() is not changed", parrot.longestRepeat(), 0);
        parrot.passDays(2);
        Check.due("repeatAfter(1) from the day 2", parrot.repeatAfter(1), 2);
        Check.dueLetters("behind that", parrot, "aa");
        ParrotSquawks idle = Check.heard("ab");
        Check.due("repeatAfter(1) without orders", idle.repeatAfter(1), 0);
        Check.hear(idle, "ab");
        Check.due("repeatAfter(1) without orders", idle.repeatAfter(1), 2);
    }

    private static void promise35DaysUntilKnown() {
        ParrotSquawks parrot = Check.taught("insult ab; insult b; insult c; insult d; insult e;"
                + "hear b when day = 0; hear a when day = 2; hear b when day = 3;"
                + "hear c when day = 29; hear d when day = 30;"
                + "hear e when day = 4; forget 9 when day = 4;");
        Check.due("daysUntilKnown(0)", parrot.daysUntilKnown(0), 4);
        Check.due("daysUntilKnown(1)", parrot.daysUntilKnown(1), 1);
        Check.due("daysUntilKnown(2)", parrot.daysUntilKnown(2), 30);
        Check.due("daysUntilKnown(3)", parrot.daysUntilKnown(3), -1);
        Check.due("only inside of a day", parrot.daysUntilKnown(4), -1);
        Check.dueNoPlace("daysUntilKnown(5) of five", () -> parrot.daysUntilKnown(5));
        dueWildNoPlace("daysUntilKnown", parrot::daysUntilKnown);
        Check.due("day() is not changed", parrot.day(), 0);
        Check.due("length() is not changed", parrot.length(), 0);
        parrot.passDays(1);
        Check.due("known now", parrot.daysUntilKnown(1), 0);
        Check.due("daysUntilKnown(3) from the day 1", parrot.daysUntilKnown(3), 30);
    }

    private static void promise36BestLetter() {
        Check.due("bestLetter() of nothing", Check.heard("").bestLetter(), 1);
        Check.due("bestLetter() of c", Check.heard("c").bestLetter(), 3);
        Check.due("bestLetter() of cb", Check.heard("cb").bestLetter(), 2);
        Check.due("bestLetter() of z", Check.heard("z").bestLetter(), 26);
        Check.due("bestLetter() of banana", Check.heard("banana").bestLetter(), 14);
        Check.due("bestLetter() of abcab", Check.heard("abcab").bestLetter(), 3);
        // No letter makes zzz longer.
        Check.due("bestLetter() of zzzzyb", Check.heard("zzzzyb").bestLetter(), 1);
        String full = "bcaefghijklmnopqrstuvwxyzaefghijklmnopqr";
        ParrotSquawks parrot = Check.heard(full);
        Check.due("bestLetter() with 40 there", parrot.bestLetter(), 19);
        Check.dueLetters("nothing is changed:", parrot, full);
        // As one more is heard, the first b is forgotten: c would not make bc stand there twice.
        ParrotSquawks first = Check.heard("bcadefghijklmnopqrstuvwxyzzyxwvutsrqponb");
        Check.due("bestLetter() with the first one forgotten", first.bestLetter(), 1);
    }

    private static void promise37MeanShared() {
        Check.dueMean("meanShared() of nothing", Check.heard("").meanShared(), 0.0);
        Check.dueMean("meanShared() of abc", Check.heard("abc").meanShared(), 0.0);
        Check.dueMean("meanShared() of banana", Check.heard("banana").meanShared(), 1.0);
        Check.dueMean("meanShared() of aa", Check.heard("aa").meanShared(), 0.5);
        Check.dueMean("meanShared() of aab", Check.heard("aab").meanShared(), 1.0 / 3.0);
        Check.dueMean("meanShared() of 40 a", Check.heard("a".repeat(40)).meanShared(), 19.5);
    }

    private static void promise38Digest() {
        long d = 1069;
        for (int number : new int[] {0, 0, 0, 0, 0, 0, -1, 0, 0, -1}) {
            d = d * 31 + number;
        }
        Check.due("digest() of a new one", new ParrotSquawks().digest(), d);
        ParrotSquawks parrot = Check.taught("insult a; insult ba; hear aba;");
        parrot.passDays(1);
        d = 1069;
        for (int number : new int[] {3, 2, 1, 1, 5, 1, 0, 2, 1, 0,
                1, 1, 2, 2, 1, 0,
                0, 1, 0,
                2, 0, 2, 2, 1, 1, 1, 2}) {
            d = d * 31 + number;
        }
        Check.due("digest() of aba", parrot.digest(), d);
        Check.due("digest() changes nothing", parrot.digest(), d);
    }
}
