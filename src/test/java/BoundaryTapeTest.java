/** The boundary cases of the tape: its 2000 bytes, its positions, and where its tokens end. */
public final class BoundaryTapeTest {

    private static final String[] KEYWORDS = {"insult", "hear", "mock", "echo", "forget", "when",
        "day", "length", "longest", "kinds", "count", "place", "of", "knows", "not", "and", "or",
        "min", "max"};

    private BoundaryTapeTest() {
    }

    public static void main(String[] args) {
        atMost2000Bytes();
        all2000BytesAreRead();
        atFirstEmpty();
        emptyBehindTeach();
        fourBytesOfEachNumber();
        trimmedBytes();
        positionsAreCountedFrom0();
        blanksAndLineEnds();
        blanksBetweenTwoTokens();
        blanksThatHaveToStand();
        longestPossibleToken();
        firstByteOfAWord();
        laterBytesOfAWord();
        atMost10BytesOfAWord();
        bytesOfANumber();
        upTo6DigitsOfANumber();
        symbols();
        keywordsAndNames();
        Check.end();
    }

    /** Both, with as many blanks between them that these are so many bytes. */
    private static String stretched(String front, String back, int size) {
        return front + " ".repeat(size - front.length() - back.length()) + back;
    }

    private static ParrotSquawks withTape(int size) {
        ParrotSquawks parrot = new ParrotSquawks();
        Check.feed(parrot, stretched("insult ab;", "mock ab;", size));
        return parrot;
    }

    private static void dueFedFrom(int size) {
        ParrotSquawks parrot = withTape(size);
        Check.due("feed() with " + size + " bytes", parrot.feed(0x20202020, 0x20202020,
                0x20202020, 0x20202020, 0x20202020), size + 20);
        Check.dueNoArgument("trim() to one byte more", () -> parrot.trim(size + 21));
        Check.due("trim() to all of it", parrot.trim(size + 20), size + 20);
        Check.due("teach()", parrot.teach(), 0);
        Check.due("insults()", parrot.insults(), 1);
    }

    private static void dueNotFedFrom(int size) {
        ParrotSquawks parrot = withTape(size);
        Check.dueRefused(parrot, "feed() with " + size + " bytes", IllegalStateException.class,
                () -> parrot.feed(0x3f3f3f3f, 0x3f3f3f3f, 0x3f3f3f3f, 0x3f3f3f3f, 0x3f3f3f3f));
        Check.dueNoArgument("trim() to one byte more", () -> parrot.trim(size + 1));
        Check.due("trim() to all of it", parrot.trim(size), size);
        Check.due("teach() of what stands there", parrot.teach(), 0);
        Check.due("passDays(1)", parrot.passDays(1), 1);
        Check.dueLetters("behind a day", parrot, "ab");
    }

    private static void atMost2000Bytes() {
        Check.sentence("The tape is a row of at most 2000 bytes; feed throws "
                + "IllegalStateException if there would be more than 2000");
        dueFedFrom(1960);
        dueFedFrom(1979);
        dueFedFrom(1980);
        dueNotFedFrom(1981);
        dueNotFedFrom(1982);
        dueNotFedFrom(1999);
        dueNotFedFrom(2000);
        ParrotSquawks parrot = new ParrotSquawks();
        for (int size = 20; size <= 2000; size += 20) {
            Check.due("feed()", parrot.feed(0, 0, 0, 0, 0), size);
        }
        Check.dueThrow("feed()", IllegalStateException.class, () -> parrot.feed(0, 0, 0, 0, 0));
        Check.due("trim(1980)", parrot.trim(1980), 1980);
        Check.due("feed()", parrot.feed(0, 0, 0, 0, 0), 2000);
    }

    private static void all2000BytesAreRead() {
        Check.sentence("teach reads all bytes of the tape, up to 2000");
        for (int size = 1998; size <= 2000; size++) {
            ParrotSquawks parrot = withTape(size);
            Check.due("teach()", parrot.teach(), 0);
            parrot.passDays(1);
            Check.dueLetters("behind a day", parrot, "ab");
            Check.dueError(stretched("insult ab;", "?", size), 1, size - 1);
            Check.dueError(stretched("insult ab;", "hear", size), 1, size);
            Check.dueError(stretched("insult ab;", "hear ab", size), 1, size);
            Check.dueError(stretched("insult ab;", "echo 1", size), 1, size);
            Check.dueError(stretched("insult ab;", "echo 1<", size), 1, size - 1);
            Check.dueError(stretched("insult ab;", "echo 1 ", size), 1, size);
            Check.dueGood(stretched("insult ab;", "hear ab; \n", size));
        }
    }

    private static void atFirstEmpty() {
        Check.sentence("The tape is at first empty");
        ParrotSquawks parrot = new ParrotSquawks();
        Check.dueNoArgument("trim(1)", () -> parrot.trim(1));
        Check.due("trim(0)", parrot.trim(0), 0);
        Check.due("teach()", parrot.teach(), 0);
        Check.due("errorAt()", parrot.errorAt(), -1);
        Check.due("feed()", parrot.feed(0, 0, 0, 0, 0), 20);
    }

    private static void dueEmpty(ParrotSquawks parrot) {
        Check.dueNoArgument("trim(1)", () -> parrot.trim(1));
        Check.due("trim(0)", parrot.trim(0), 0);
        Check.due("teach() of nothing", parrot.teach(), 0);
        Check.due("errorAt()", parrot.errorAt(), -1);
        Check.due("insults()", parrot.insults(), 0);
        Check.due("feed()", parrot.feed(0x20202020, 0x20202020, 0x20202020, 0x20202020,
                0x20202020), 20);
        Check.due("teach() of what was fed since then", parrot.teach(), 0);
    }

    private static void emptyBehindTeach() {
        Check.sentence("teach reads it as a plan, and it is empty behind it; "
                + "if it has an error (but the tape is empty)");
        dueEmpty(Check.taught("insult ab;"));
        for (String bad : new String[] {"insult ab", "insult a; insult a;", "mock a;",
                "hear a;".repeat(17), "hear a1;"}) {
            ParrotSquawks parrot = new ParrotSquawks();
            Check.due("teach() has an error", Check.teach(parrot, bad) > 0, true);
            dueEmpty(parrot);
        }
    }

    private static void fourBytesOfEachNumber() {
        Check.sentence("feed appends the four bytes of each number, the highest one first");
        for (int at = 0; at < 20; at++) {
            for (char sign : new char[] {0, 31, 33, 127, 128, 255}) {
                Check.dueError(" ".repeat(at) + sign + " ".repeat(19 - at), 1, at);
            }
        }
        ParrotSquawks parrot = new ParrotSquawks();
        Check.due("feed()", parrot.feed(0x68656172, 0x20616263, 0x64656667, 0x68696a3b,
                0x65636820), 20);
        Check.due("feed()", parrot.feed(0x3b3b3b3b, -1, Integer.MIN_VALUE, Integer.MAX_VALUE, 0),
                40);
        Check.due("trim(16)", parrot.trim(16), 16);
        Check.due("teach()", parrot.teach(), 0);
        parrot.passDays(1);
        Check.dueLetters("behind a day", parrot, "abcdefghij");
    }

    private static void trimmedBytes() {
        Check.sentence("trim throws IllegalArgumentException if n is not 0 to the number of "
                + "bytes of the tape");
        for (int size : new int[] {18, 19, 20, 1999, 2000}) {
            ParrotSquawks parrot = withTape(size);
            for (int n : new int[] {Integer.MIN_VALUE, -1, size + 1, size + 2,
                Integer.MAX_VALUE}) {
                Check.dueRefused(parrot, "trim(" + n + ") of " + size,
                        IllegalArgumentException.class, () -> parrot.trim(n));
            }
            Check.due("trim() to all", parrot.trim(size), size);
            Check.due("trim() to one less", parrot.trim(size - 1), size - 1);
            Check.dueNoArgument("trim() back to all", () -> parrot.trim(size));
            Check.due("trim(10)", parrot.trim(10), 10);
            Check.due("teach() of its first bytes", parrot.teach(), 0);
            Check.due("insults()", parrot.insults(), 1);
        }
        Check.sentence("trim shortens the tape to its first bytes");
        trimmedToEach();
        // What is left of the keyword is a name up to five bytes.
        int[] errorsAt = {-1, 0, 0, 0, 0, 0, 6, 7, 8, -1, -1, 10};
        for (int n = 0; n < errorsAt.length; n++) {
            ParrotSquawks parrot = new ParrotSquawks();
            Check.feed(parrot, "insult a; insult b;");
            Check.due("trim(" + n + ")", parrot.trim(n), n);
            Check.due("teach() of " + n + " bytes", parrot.teach(), errorsAt[n] < 0 ? 0 : 1);
            Check.due("errorAt() of " + n + " bytes", parrot.errorAt(), errorsAt[n]);
        }
    }

    /** Bytes that were trimmed off are not there, even if they would make a token longer. */
    private static void trimmedToEach() {
        String plan = "insult ab;echo 12+count of ab when 34<=56 and 78>=9 or[knows ab];hear cd;";
        for (int n = 0; n <= plan.length(); n++) {
            ParrotSquawks trimmed = new ParrotSquawks();
            Check.feed(trimmed, plan);
            Check.due("trim(" + n + ")", trimmed.trim(n), n);
            ParrotSquawks fresh = new ParrotSquawks();
            Check.due("teach() of " + n + " bytes", trimmed.teach(),
                    Check.teach(fresh, plan.substring(0, n)));
            Check.due("errorAt() of " + n + " bytes", trimmed.errorAt(), fresh.errorAt());
        }
        int less = plan.indexOf("<=") + 1;
        Check.dueError(plan.substring(0, less), 1, less);
    }

    private static void positionsAreCountedFrom0() {
        Check.sentence("Positions of the tape are counted from 0, in bytes");
        Check.dueError("?", 1, 0);
        Check.dueError(" ?", 1, 1);
        Check.dueError("\n?", 1, 1);
        Check.dueError("\n\n?", 1, 2);
        Check.dueError("\u00e9", 1, 0);
        Check.dueError("insult a;\u00e9\u00e9", 1, 9);
        Check.dueError(" \u00e9?", 1, 1);
    }

    private static void blanksAndLineEnds() {
        Check.sentence("Blanks (32) and line ends (10) can stand at the beginning and at the end");
        for (char sign = 0; sign < 256; sign++) {
            boolean blank = sign == 32 || sign == 10;
            Check.dueError(sign + "hear a;", blank ? 0 : 1, blank ? -1 : 0);
            Check.dueError("hear a;" + sign, blank ? 0 : 1, blank ? -1 : 7);
        }
    }

    private static boolean isLetter(char sign) {
        return sign >= 97 && sign <= 122;
    }

    private static boolean isDigit(char sign) {
        return sign >= 48 && sign <= 57;
    }

    private static void blanksBetweenTwoTokens() {
        Check.sentence("Blanks and line ends can stand between tokens");
        String[] tokens = {"insult", "a", ";", "echo", "count", "of", "a", "*", "(", "-", "day",
            "+", "min", "(", "1", ",", "22", ")", ")", "when", "[", "not", "knows", "a", "or",
            "1", "<=", "2", "]", "and", "longest", ">=", "0", ";"};
        for (String blanks : new String[] {" ", "\n", "  ", "\n \n", " ".repeat(40)}) {
            Check.dueGood(blanks + String.join(blanks, tokens) + blanks);
            Check.dueGood(String.join(blanks, tokens));
        }
        Check.dueGood("insult a;echo count of a*(-day+min(1,22))when[not knows a or 1<=2]and "
                + "longest>=0;");
    }

    private static void blanksThatHaveToStand() {
        Check.sentence("blanks have to stand between two tokens that would otherwise be read "
                + "as one");
        Check.dueGood("insult a;");
        Check.dueError("insulta;", 1, 0);
        Check.dueGood("echo 1when 2<3;");
        Check.dueError("echo daywhen 2<3;", 1, 5);
        Check.dueGood("echo 1 when 2<3and 4<5;");
        Check.dueError("echo 1 when 2<3 and4<5;", 1, 16);
        Check.dueError("echo 1 when2<3;", 1, 7);
        Check.dueError("echo count ofa;", 1, 11);
        Check.dueError("echo 1 2;", 1, 7);
        Check.dueGood("echo 12;");
        Check.dueError("echo 1 when 2< =3;", 1, 15);
        Check.dueGood("echo 1 when 2<=3;");
        Check.dueError("echo 1 when 2> =3;", 1, 15);
        Check.dueGood("echo 1 when 2>=3;");
    }

    private static void longestPossibleToken() {
        Check.sentence("The longest possible token is always read");
        for (String keyword : KEYWORDS) {
            Check.dueGood("insult " + keyword + "s;");
            Check.dueGood("hear x" + keyword + ";");
        }
        Check.dueGood("hear dayday;");
        Check.dueError("hear day1;", 5, 5);
        Check.dueError("echo day1;", 1, 5);
        Check.dueError("echo 1 when 2<==3;", 1, 15);
        Check.dueError("echo 1 when 2<>3;", 1, 14);
        Check.dueError("echo 1 when 2=<3;", 1, 14);
        Check.dueError("echo 1 when 2=>3;", 1, 14);
        Check.dueError("echo 1 when 2<<3;", 1, 14);
        Check.dueGood("echo 1 when 2<-3;");
    }

    private static void firstByteOfAWord() {
        Check.sentence("A word: a letter a to z");
        for (char sign = 0; sign < 256; sign++) {
            boolean blank = sign == 32 || sign == 10;
            boolean letter = isLetter(sign);
            Check.dueError("hear " + sign + ";", letter ? 0 : 1, letter ? -1 : blank ? 6 : 5);
        }
    }

    private static void laterBytesOfAWord() {
        Check.sentence("A word: followed by letters a to z and digits");
        for (char sign = 0; sign < 256; sign++) {
            String plan = "hear a" + sign + ";";
            if (isDigit(sign)) {
                Check.dueError(plan, 5, 5);
            } else if (isLetter(sign) || sign == 32 || sign == 10) {
                Check.dueGood(plan);
            } else {
                Check.dueError(plan, 1, sign == ';' ? 7 : 6);
            }
        }
        Check.sentence("The letters are told as 1 (a) to 26 (z)");
        for (char sign = 'a'; sign <= 'z'; sign++) {
            ParrotSquawks parrot = Check.taught("hear a" + sign + ";");
            parrot.passDays(1);
            Check.due("letterAt(1) for " + sign, parrot.letterAt(1), sign - 96);
        }
    }

    private static void atMost10BytesOfAWord() {
        Check.sentence("A word: at most 10 bytes");
        for (int size = 1; size <= 30; size++) {
            String word = "abcdefghijklmnopqrstuvwxyzabcd".substring(0, size);
            boolean good = size <= 10;
            Check.dueError("insult " + word + ";", good ? 0 : 1, good ? -1 : 7);
            Check.dueError("hear " + word + ";", good ? 0 : 1, good ? -1 : 5);
            String withDigit = word.substring(1) + "9";
            if (size > 1) {
                Check.dueError("hear " + withDigit + ";", good ? 5 : 1, 5);
                Check.dueError("echo count of " + withDigit + ";", good ? 3 : 1, 14);
            }
            if (good) {
                ParrotSquawks parrot = Check.taught("insult " + word + "; mock " + word + ";");
                Check.due("lettersOf(0)", parrot.lettersOf(0), size);
                parrot.passDays(1);
                Check.dueLetters("behind a day", parrot, word);
            }
        }
        Check.dueError("insult a;" + "b".repeat(1991), 1, 9);
    }

    private static void bytesOfANumber() {
        Check.sentence("A number: digits");
        for (char sign = 0; sign < 256; sign++) {
            boolean blank = sign == 32 || sign == 10;
            if (isDigit(sign) || blank) {
                Check.dueGood("echo 1" + sign + ";");
                Check.dueGood("echo " + sign + "1;");
            } else {
                boolean open = "+-*/;".indexOf(sign) >= 0;
                Check.dueError("echo 1" + sign + ";", 1, open ? 7 : 6);
            }
        }
        for (int digit = 0; digit <= 9; digit++) {
            ParrotSquawks parrot = Check.heard("abcdefghijklmnopqrst");
            Check.due("teach()", Check.teach(parrot, "hear abcdefghij; hear klmnopqrst; forget "
                    + digit + ";"), 0);
            parrot.passDays(1);
            Check.due("length()", parrot.length(), 20 - digit);
        }
    }

    private static void upTo6DigitsOfANumber() {
        Check.sentence("A number: 1 to 6 digits");
        for (int size = 1; size <= 20; size++) {
            boolean good = size <= 6;
            for (String digit : new String[] {"0", "1", "9"}) {
                Check.dueError("echo " + digit.repeat(size) + ";", good ? 0 : 1, good ? -1 : 5);
                Check.dueError("echo day+" + digit.repeat(size) + ";", good ? 0 : 1,
                        good ? -1 : 9);
            }
        }
        String[] numbers = {"0", "1", "9", "10", "99", "100", "99999", "100000", "999999",
            "000001", "000000"};
        String[] sums = {"1-1", "0+1", "8+1", "9+1", "98+1", "99+1", "99998+1", "99999+1",
            "999998+1", "1", "0"};
        for (int i = 0; i < numbers.length; i++) {
            ParrotSquawks parrot = Check.taught("hear a when " + numbers[i] + "=" + sums[i] + ";");
            Check.due(numbers[i] + " is " + sums[i], parrot.passDays(1), 1);
        }
    }

    private static void symbols() {
        Check.sentence("Symbols: ( ) [ ] ; , + - * / < > = <= >=");
        for (char sign = 0; sign < 256; sign++) {
            boolean joins = "+-*/".indexOf(sign) >= 0;
            boolean digit = isDigit(sign);
            boolean good = joins || digit;
            int at = sign == 32 || sign == 10 ? 7 : 6;
            Check.dueError("echo 1" + sign + "2;", good ? 0 : 1,
                    good ? -1 : sign == ';' ? 7 : at);
            boolean compares = "<>=".indexOf(sign) >= 0;
            String test = "echo 1 when 3" + sign + "2;";
            Check.dueError(test, compares ? 0 : 1,
                    compares ? -1 : good ? 15 : sign == 32 || sign == 10 ? 14 : 13);
        }
    }

    private static void keywordsAndNames() {
        Check.sentence("All other words are names");
        for (String keyword : KEYWORDS) {
            Check.dueError("insult " + keyword + ";", 1, 7);
            Check.dueError("hear " + keyword + ";", 1, 5);
            Check.dueError("mock " + keyword + ";", 1, 5);
            Check.dueGood("insult " + keyword + keyword.charAt(0) + ";");
            Check.dueGood("insult " + keyword.substring(0, keyword.length() - 1) + ";");
            Check.dueGood("insult " + keyword.substring(1) + ";");
            Check.dueError("insult " + keyword + "0;", 5, 7);
            Check.dueError("insult " + keyword.substring(0, 1).toUpperCase()
                    + keyword.substring(1) + ";", 1, 7);
        }
    }
}
