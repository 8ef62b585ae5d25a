/** A parrot that sorts its squawks. */
public final class ParrotSquawks {

    private static final int MOST_BYTES = 2000;
    private static final int FEED_BYTES = 20;
    private static final int MOST_TOKENS = 400;
    private static final int MOST_DEPTH = 8;
    private static final int WORD_BYTES = 10;
    private static final int NUMBER_DIGITS = 6;
    private static final int MOST_INSULTS = 8;
    private static final int MOST_ORDERS = 16;
    private static final int MOST_LETTERS = 40;
    private static final int ALPHABET = 26;
    private static final int MOST_DAYS = 30;
    // Eight depths, each with at most three numbers waiting, need some thirty.
    private static final int STACK_SIZE = 64;

    private static final int BEFORE_A = 'a' - 1;

    private static final int NO_ERROR = 0;
    private static final int ERROR_GRAMMAR = 1;
    private static final int ERROR_INSULT_TWICE = 2;
    private static final int ERROR_NO_INSULT = 3;
    private static final int ERROR_TOO_MANY = 4;
    private static final int ERROR_DIGIT = 5;

    private static final long DIGEST_START = 1069L;
    private static final long DIGEST_FACTOR = 31L;

    private final Grammar grammar = new Grammar();
    private final Tape tape = grammar.tokens.tape;
    private final Parrot parrot = new Parrot();
    // Lives through what would be, so that the parrot itself stays as it is.
    private final Parrot trial = new Parrot();
    private Plan plan = new Plan();
    private int errorPlace = -1;

    public ParrotSquawks() {
    }

    // ---- the language

    public int feed(int a, int b, int c, int d, int e) throws IllegalStateException {
        if (tape.size > MOST_BYTES - FEED_BYTES) {
            throw new IllegalStateException("the tape would be too long");
        }
        tape.append(a);
        tape.append(b);
        tape.append(c);
        tape.append(d);
        tape.append(e);
        return tape.size;
    }

    public int trim(int n) throws IllegalArgumentException {
        if (n < 0 || n > tape.size) {
            throw new IllegalArgumentException("the tape has not so many bytes");
        }
        tape.size = n;
        return n;
    }

    public int teach() {
        int error = grammar.readPlan();
        errorPlace = grammar.errorPlace;
        tape.size = 0;
        if (error == NO_ERROR) {
            plan = grammar.exchange(plan);
            parrot.beginAnew();
        }
        return error;
    }

    public int errorAt() {
        return errorPlace;
    }

    // ---- the parrot

    public int length() {
        return parrot.squawks.count;
    }

    public int insults() {
        return plan.insultCount;
    }

    public int day() {
        return parrot.today;
    }

    public int ordersCarriedOut() {
        return parrot.carriedOut;
    }

    public int kinds() {
        return parrot.squawks.differentPhrases();
    }

    // ---- squawks

    public int letterAt(int place) throws IndexOutOfBoundsException {
        checkPlace(place);
        return parrot.squawks.letters[place];
    }

    public int rankOf(int place) throws IndexOutOfBoundsException {
        checkPlace(place);
        return parrot.squawks.rankAt(place);
    }

    public int placeAt(int rank) throws IndexOutOfBoundsException {
        checkPlace(rank);
        return parrot.squawks.placeOfRank(rank);
    }

    public int sharedAt(int rank) throws IndexOutOfBoundsException {
        checkPlace(rank);
        return parrot.squawks.sharedWithRankAhead(rank);
    }

    public int shared(int place, int other) throws IndexOutOfBoundsException {
        checkPlace(place);
        checkPlace(other);
        return parrot.squawks.sharedFrom(place, other);
    }

    public boolean isAhead(int place, int other) throws IndexOutOfBoundsException {
        checkPlace(place);
        checkPlace(other);
        return parrot.squawks.rankAt(place) < parrot.squawks.rankAt(other);
    }

    // ---- phrases

    public int longestRepeat() {
        return parrot.squawks.longestRepeated();
    }

    public int repeatPlace() {
        return parrot.squawks.firstPlaceOfRepeat();
    }

    public int repeatCount() {
        return parrot.squawks.placesOfRepeat();
    }

    public int kindsOf(int letters) throws IllegalArgumentException {
        checkLetters(letters);
        return parrot.squawks.differentPhrasesWith(letters);
    }

    public int repeatedOf(int letters) throws IllegalArgumentException {
        checkLetters(letters);
        return parrot.squawks.repeatedPhrasesWith(letters);
    }

    public int mockedAtEnd() {
        return parrot.squawks.endStandingEarlier();
    }

    // ---- insults

    public int lettersOf(int insult) throws IndexOutOfBoundsException {
        checkInsult(insult);
        return plan.insultAt(insult).count;
    }

    public int countOf(int insult) throws IndexOutOfBoundsException {
        checkInsult(insult);
        return parrot.squawks.placesWith(plan.insultAt(insult));
    }

    public int firstOf(int insult) throws IndexOutOfBoundsException {
        checkInsult(insult);
        return parrot.squawks.firstPlaceWith(plan.insultAt(insult));
    }

    public int lastOf(int insult) throws IndexOutOfBoundsException {
        checkInsult(insult);
        return parrot.squawks.lastPlaceWith(plan.insultAt(insult));
    }

    public int stepsTo(int insult) throws IndexOutOfBoundsException {
        checkInsult(insult);
        return parrot.squawks.halvingsTo(plan.insultAt(insult));
    }

    public int mostSaid() {
        int most = -1;
        int mostPlaces = -1;
        for (int insult = 0; insult < plan.insultCount; insult++) {
            int places = parrot.squawks.placesWith(plan.insultAt(insult));
            if (places > mostPlaces) {
                mostPlaces = places;
                most = insult;
            }
        }
        return most;
    }

    // ---- by hand

    public int hear(int letter) throws IllegalArgumentException {
        if (letter < 1 || letter > ALPHABET) {
            throw new IllegalArgumentException("there is no such letter");
        }
        parrot.squawks.hearLetter(letter);
        return parrot.squawks.count;
    }

    public int mock(int insult) throws IndexOutOfBoundsException {
        checkInsult(insult);
        parrot.squawks.hearWord(plan.insultAt(insult));
        return parrot.squawks.count;
    }

    public int echo(int letters) throws IllegalArgumentException {
        checkRemembered(letters);
        parrot.squawks.hearLastAgain(letters);
        return parrot.squawks.count;
    }

    public int forget(int letters) throws IllegalArgumentException {
        checkRemembered(letters);
        parrot.squawks.forgetFirst(letters);
        return parrot.squawks.count;
    }

    // ---- days and what would be

    public int passDays(int days) throws IllegalArgumentException {
        checkDays(days);
        int before = parrot.carriedOut;
        parrot.liveDays(days, plan);
        return parrot.carriedOut - before;
    }

    public int repeatAfter(int days) throws IllegalArgumentException {
        checkDays(days);
        trial.becomeLike(parrot);
        trial.liveDays(days, plan);
        return trial.squawks.longestRepeated();
    }

    public int daysUntilKnown(int insult) throws IndexOutOfBoundsException {
        checkInsult(insult);
        Word word = plan.insultAt(insult);
        trial.becomeLike(parrot);
        for (int days = 0; days <= MOST_DAYS; days++) {
            if (trial.squawks.isKnown(word)) {
                return days;
            }
            trial.liveDays(1, plan);
        }
        return -1;
    }

    public int bestLetter() {
        int best = 1;
        int bestRepeat = -1;
        for (int letter = 1; letter <= ALPHABET; letter++) {
            trial.squawks.becomeLike(parrot.squawks);
            trial.squawks.hearLetter(letter);
            int repeat = trial.squawks.longestRepeated();
            if (repeat > bestRepeat) {
                bestRepeat = repeat;
                best = letter;
            }
        }
        return best;
    }

    public double meanShared() {
        int count = parrot.squawks.count;
        if (count == 0) {
            return 0.0;
        }
        return (double) parrot.squawks.sumOfAllShared() / (double) count;
    }

    public long digest() {
        long d = DIGEST_START;
        d = joined(d, length());
        d = joined(d, insults());
        d = joined(d, day());
        d = joined(d, ordersCarriedOut());
        d = joined(d, kinds());
        d = joined(d, longestRepeat());
        d = joined(d, repeatPlace());
        d = joined(d, repeatCount());
        d = joined(d, mockedAtEnd());
        d = joined(d, mostSaid());
        return insultsJoined(squawksJoined(d));
    }

    private long squawksJoined(long start) {
        long d = start;
        for (int place = 0; place < parrot.squawks.count; place++) {
            d = joined(d, letterAt(place));
            d = joined(d, rankOf(place));
        }
        for (int rank = 0; rank < parrot.squawks.count; rank++) {
            d = joined(d, sharedAt(rank));
        }
        return d;
    }

    private long insultsJoined(long start) {
        long d = start;
        for (int insult = 0; insult < plan.insultCount; insult++) {
            d = joined(d, countOf(insult));
            d = joined(d, firstOf(insult));
            d = joined(d, lastOf(insult));
            d = joined(d, stepsTo(insult));
        }
        return d;
    }

    private static long joined(long d, int x) {
        return d * DIGEST_FACTOR + x;
    }

    // There are as many ranks as places, so that this looks at ranks, too.
    private void checkPlace(int place) {
        if (place < 0 || place >= parrot.squawks.count) {
            throw new IndexOutOfBoundsException("there is no such place or rank");
        }
    }

    private void checkInsult(int insult) {
        if (insult < 0 || insult >= plan.insultCount) {
            throw new IndexOutOfBoundsException("there is no such insult");
        }
    }

    private void checkLetters(int letters) {
        if (letters < 1 || letters > MOST_LETTERS) {
            throw new IllegalArgumentException("letters is not 1 to 40");
        }
    }

    private void checkRemembered(int letters) {
        checkLetters(letters);
        if (letters > parrot.squawks.count) {
            throw new IllegalArgumentException("it does not remember so many letters");
        }
    }

    private void checkDays(int days) {
        if (days < 1 || days > MOST_DAYS) {
            throw new IllegalArgumentException("days is not 1 to 30");
        }
    }

    /**
     * The tokens, which also stand for the steps of tests and sums: each step bears the name of
     * the token that asks for it. TURN alone is no token, but the step that a - in front asks for.
     */
    private enum Token {
        NONE(""), END(""), NAME(""), NUMBER(""), TURN(""),
        INSULT("insult"), HEAR("hear"), MOCK("mock"), ECHO("echo"), FORGET("forget"),
        WHEN("when"), DAY("day"), LENGTH("length"), LONGEST("longest"), KINDS("kinds"),
        COUNT("count"), PLACE("place"), OF("of"), KNOWS("knows"),
        NOT("not"), AND("and"), OR("or"), MIN("min"), MAX("max"),
        OPEN("("), CLOSE(")"), OPEN_TEST("["), CLOSE_TEST("]"), SEMICOLON(";"), COMMA(","),
        PLUS("+"), MINUS("-"), TIMES("*"), OVER("/"),
        LESS("<"), MORE(">"), EQUAL("="), AT_MOST("<="), AT_LEAST(">=");

        private static final Token[] ALL = values();

        private final String text;

        Token(String text) {
            this.text = text;
        }
    }

    /** The bytes that were fed. */
    private static final class Tape {
        private final int[] bytes = new int[MOST_BYTES];
        int size;

        void append(int fourBytes) {
            for (int shift = 24; shift >= 0; shift -= 8) {
                if (size >= 0 && size < MOST_BYTES) {
                    bytes[size] = fourBytes >>> shift & 255;
                    size++;
                }
            }
        }

        int byteAt(int place) {
            return place >= 0 && place < size && place < MOST_BYTES ? bytes[place] : -1;
        }
    }

    /**
     * The tokens of the tape, and the one of them that is looked at. The last one is END, or
     * NONE where no token begins, or where it is too long or one too many.
     */
    private static final class Tokens {
        final Tape tape = new Tape();
        private final Token[] kinds = new Token[MOST_TOKENS + 1];
        private final int[] starts = new int[MOST_TOKENS + 1];
        private final int[] ends = new int[MOST_TOKENS + 1];
        private int last;
        private int at;
        Token kind = Token.NONE;
        int start;
        int end;

        Tokens() {
            for (int i = 0; i <= MOST_TOKENS; i++) {
                kinds[i] = Token.NONE;
            }
        }

        void split() {
            end = 0;
            for (int i = 0; i <= MOST_TOKENS; i++) {
                start = behindBlanks(end);
                end = start;
                kind = start >= tape.size ? Token.END : Token.NONE;
                if (kind == Token.NONE && i < MOST_TOKENS) {
                    kind = readToken();
                }
                kinds[i] = kind;
                starts[i] = start;
                ends[i] = end;
                last = i;
                if (kind == Token.END || kind == Token.NONE) {
                    break;
                }
            }
            lookAt(0);
        }

        void advance() {
            lookAt(Math.min(at + 1, last));
        }

        int number() {
            int number = 0;
            for (int place = start; place < end; place++) {
                number = number * 10 + tape.byteAt(place) - '0';
            }
            return number;
        }

        boolean hasDigit() {
            for (int place = start; place < end; place++) {
                if (isDigit(tape.byteAt(place))) {
                    return true;
                }
            }
            return false;
        }

        void spell(Word word) {
            word.count = 0;
            for (int place = start; place < end && word.count < WORD_BYTES; place++) {
                word.letters[word.count] = tape.byteAt(place) - BEFORE_A;
                word.count++;
            }
        }

        // A digit is no letter of an insult, so that a name with one never spells it.
        boolean spells(Word word) {
            if (end - start != word.count) {
                return false;
            }
            for (int i = 0; i < word.count; i++) {
                if (word.letters[i] != tape.byteAt(start + i) - BEFORE_A) {
                    return false;
                }
            }
            return true;
        }

        private void lookAt(int index) {
            if (index >= 0 && index <= MOST_TOKENS) {
                at = index;
                kind = kinds[index];
                start = starts[index];
                end = ends[index];
            }
        }

        private int behindBlanks(int from) {
            int place = from;
            while (place < tape.size && isBlank(tape.byteAt(place))) {
                place++;
            }
            return place;
        }

        private Token readToken() {
            if (isLetter(tape.byteAt(start))) {
                return readWord();
            }
            if (isDigit(tape.byteAt(start))) {
                return readNumber();
            }
            return readSymbol();
        }

        private Token readWord() {
            while (end < tape.size && isLetterOrDigit(tape.byteAt(end))) {
                end++;
            }
            if (end - start > WORD_BYTES) {
                return Token.NONE;
            }
            for (Token each : Token.ALL) {
                if (each.text.length() == end - start && standsHere(each.text)) {
                    return each;
                }
            }
            return Token.NAME;
        }

        private Token readNumber() {
            while (end < tape.size && isDigit(tape.byteAt(end))) {
                end++;
            }
            return end - start > NUMBER_DIGITS ? Token.NONE : Token.NUMBER;
        }

        private Token readSymbol() {
            Token longest = Token.NONE;
            for (Token each : Token.ALL) {
                if (each.text.length() > longest.text.length() && standsHere(each.text)) {
                    longest = each;
                }
            }
            end = start + longest.text.length();
            return longest;
        }

        private boolean standsHere(String text) {
            for (int i = 0; i < text.length(); i++) {
                if (tape.byteAt(start + i) != text.charAt(i)) {
                    return false;
                }
            }
            return true;
        }

        private static boolean isBlank(int sign) {
            return sign == ' ' || sign == '\n';
        }

        private static boolean isLetter(int sign) {
            return sign >= 'a' && sign <= 'z';
        }

        private static boolean isDigit(int sign) {
            return sign >= '0' && sign <= '9';
        }

        private static boolean isLetterOrDigit(int sign) {
            return isLetter(sign) || isDigit(sign);
        }
    }

    /** A word that can be heard: its letters, 1 to 26 each. */
    private static final class Word {
        final int[] letters = new int[WORD_BYTES];
        int count;
    }

    /** An order, whose sum and test are steps of its plan, the test behind the sum. */
    private static final class Order {
        final Word heard = new Word();
        Token action = Token.NONE;
        int insult;
        int sumFrom;
        int testFrom;
        int testTo;
    }

    /** Insults and orders; all sums and tests are steps in one row, for a stack of numbers. */
    private static final class Plan {
        final Order[] orders = new Order[MOST_ORDERS];
        // As many as there can be tokens, as a token asks for one step at most.
        final Token[] steps = new Token[MOST_TOKENS];
        final int[] operands = new int[MOST_TOKENS];
        int insultCount;
        int orderCount;
        int stepCount;
        private final Word[] insults = new Word[MOST_INSULTS];

        Plan() {
            for (int i = 0; i < MOST_INSULTS; i++) {
                insults[i] = new Word();
            }
            for (int i = 0; i < MOST_ORDERS; i++) {
                orders[i] = new Order();
            }
            for (int i = 0; i < MOST_TOKENS; i++) {
                steps[i] = Token.NONE;
            }
        }

        void clear() {
            insultCount = 0;
            orderCount = 0;
            stepCount = 0;
        }

        // The first one for a wrong number, which no caller asks for.
        Word insultAt(int number) {
            return insults[number >= 0 && number < MOST_INSULTS ? number : 0];
        }

        int insultNamed(Tokens tokens) {
            for (int i = 0; i < insultCount; i++) {
                if (tokens.spells(insults[i])) {
                    return i;
                }
            }
            return -1;
        }

        void addInsult(Tokens tokens) {
            if (insultCount < MOST_INSULTS) {
                tokens.spell(insults[insultCount]);
                insultCount++;
            }
        }

        // The last one again for an order too many: such a plan is never carried out.
        Order addOrder() {
            if (orderCount < MOST_ORDERS) {
                orderCount++;
            }
            return orders[orderCount - 1];
        }

        void addStep(Token step, int operand) {
            if (stepCount < MOST_TOKENS) {
                steps[stepCount] = step;
                operands[stepCount] = operand;
                stepCount++;
            }
        }
    }

    /**
     * Reads the tokens as a plan. What begins with read or take begins at the token that is
     * looked at; where it answers false, the token that is looked at then is that of error 1.
     */
    private static final class Grammar {
        final Tokens tokens = new Tokens();
        int errorPlace;
        // Not the one that is lived by, so that a tape with an error leaves that alone.
        private Plan plan = new Plan();
        private int depth;
        private int error;
        private int insultRead;

        // Gives the plan that was read for one that is not lived by any more.
        Plan exchange(Plan former) {
            Plan read = plan;
            plan = former;
            return read;
        }

        int readPlan() {
            tokens.split();
            plan.clear();
            depth = 0;
            error = NO_ERROR;
            errorPlace = -1;
            for (int lines = 0; lines < MOST_TOKENS && tokens.kind != Token.END; lines++) {
                boolean read = tokens.kind == Token.INSULT ? readInsult() : readOrder();
                if (!read || !take(Token.SEMICOLON)) {
                    error = ERROR_GRAMMAR;
                    errorPlace = tokens.start;
                    break;
                }
            }
            return error;
        }

        // The errors 2 to 5: the first one counts, and it only if the grammar holds to the end.
        private void note(int found) {
            if (error == NO_ERROR) {
                error = found;
                errorPlace = tokens.start;
            }
        }

        private boolean take(Token kind) {
            if (tokens.kind != kind) {
                return false;
            }
            tokens.advance();
            return true;
        }

        private boolean takeDeeper(Token kind) {
            if (depth >= MOST_DEPTH || !take(kind)) {
                return false;
            }
            depth++;
            return true;
        }

        private boolean rise() {
            depth--;
            return true;
        }

        private boolean put(Token step, int operand) {
            plan.addStep(step, operand);
            return true;
        }

        private boolean readInsult() {
            tokens.advance();
            if (tokens.kind != Token.NAME) {
                return false;
            }
            if (plan.insultNamed(tokens) >= 0) {
                note(ERROR_INSULT_TWICE);
            } else if (plan.insultCount >= MOST_INSULTS) {
                note(ERROR_TOO_MANY);
            } else if (tokens.hasDigit()) {
                note(ERROR_DIGIT);
            } else {
                plan.addInsult(tokens);
            }
            tokens.advance();
            return true;
        }

        private boolean readOrder() {
            if (!isAction(tokens.kind)) {
                return false;
            }
            if (plan.orderCount >= MOST_ORDERS) {
                note(ERROR_TOO_MANY);
            }
            Order order = plan.addOrder();
            order.action = tokens.kind;
            order.sumFrom = plan.stepCount;
            tokens.advance();
            if (!readWhat(order)) {
                return false;
            }
            order.testFrom = plan.stepCount;
            if (take(Token.WHEN) && !readTest()) {
                return false;
            }
            order.testTo = plan.stepCount;
            return true;
        }

        private static boolean isAction(Token kind) {
            return kind == Token.HEAR || kind == Token.MOCK
                    || kind == Token.ECHO || kind == Token.FORGET;
        }

        private boolean readWhat(Order order) {
            if (order.action == Token.HEAR) {
                return readHeard(order.heard);
            }
            if (order.action == Token.MOCK) {
                boolean read = readInsultName();
                order.insult = insultRead;
                return read;
            }
            return readSum();
        }

        private boolean readHeard(Word heard) {
            if (tokens.kind != Token.NAME) {
                return false;
            }
            if (tokens.hasDigit()) {
                note(ERROR_DIGIT);
            }
            tokens.spell(heard);
            tokens.advance();
            return true;
        }

        private boolean readInsultName() {
            if (tokens.kind != Token.NAME) {
                return false;
            }
            insultRead = plan.insultNamed(tokens);
            if (insultRead < 0) {
                note(ERROR_NO_INSULT);
            }
            tokens.advance();
            return true;
        }

        private boolean readTest() {
            boolean read = readBoth();
            for (int i = 0; i < MOST_TOKENS && read && take(Token.OR); i++) {
                read = readBoth() && put(Token.OR, 0);
            }
            return read;
        }

        private boolean readBoth() {
            boolean read = readSingle();
            for (int i = 0; i < MOST_TOKENS && read && take(Token.AND); i++) {
                read = readSingle() && put(Token.AND, 0);
            }
            return read;
        }

        private boolean readSingle() {
            switch (tokens.kind) {
                case NOT:
                    return takeDeeper(Token.NOT) && readSingle() && rise() && put(Token.NOT, 0);
                case OPEN_TEST:
                    return takeDeeper(Token.OPEN_TEST) && readTest() && rise()
                            && take(Token.CLOSE_TEST);
                case KNOWS:
                    return take(Token.KNOWS) && readInsultName() && put(Token.KNOWS, insultRead);
                default:
                    return readComparison();
            }
        }

        private boolean readComparison() {
            if (!readSum()) {
                return false;
            }
            Token comparison = tokens.kind;
            return isComparison(comparison) && take(comparison) && readSum() && put(comparison, 0);
        }

        private static boolean isComparison(Token kind) {
            return kind == Token.LESS || kind == Token.MORE || kind == Token.EQUAL
                    || kind == Token.AT_MOST || kind == Token.AT_LEAST;
        }

        private boolean readSum() {
            boolean read = readProduct();
            for (int i = 0; i < MOST_TOKENS && read; i++) {
                Token sign = tokens.kind;
                if (sign != Token.PLUS && sign != Token.MINUS) {
                    break;
                }
                read = take(sign) && readProduct() && put(sign, 0);
            }
            return read;
        }

        private boolean readProduct() {
            boolean read = readValue();
            for (int i = 0; i < MOST_TOKENS && read; i++) {
                Token sign = tokens.kind;
                if (sign != Token.TIMES && sign != Token.OVER) {
                    break;
                }
                read = take(sign) && readValue() && put(sign, 0);
            }
            return read;
        }

        private boolean readValue() {
            Token first = tokens.kind;
            switch (first) {
                case NUMBER:
                    return put(Token.NUMBER, tokens.number()) && take(Token.NUMBER);
                case DAY:
                case LENGTH:
                case LONGEST:
                case KINDS:
                    return put(first, 0) && take(first);
                case COUNT:
                case PLACE:
                    return take(first) && take(Token.OF) && readInsultName()
                            && put(first, insultRead);
                case MINUS:
                    return takeDeeper(Token.MINUS) && readValue() && rise() && put(Token.TURN, 0);
                case OPEN:
                    return takeDeeper(Token.OPEN) && readSum() && rise() && take(Token.CLOSE);
                case MIN:
                case MAX:
                    return take(first) && takeDeeper(Token.OPEN) && readSum() && take(Token.COMMA)
                            && readSum() && rise() && take(Token.CLOSE) && put(first, 0);
                default:
                    return false;
            }
        }
    }

    /** The letters that are remembered, and their squawks, sorted when they are asked for. */
    private static final class Squawks {
        final int[] letters = new int[MOST_LETTERS];
        int count;
        private final int[] ranks = new int[MOST_LETTERS];
        private final int[] places = new int[MOST_LETTERS];
        private final int[] sharedAhead = new int[MOST_LETTERS];
        private final int[] echoed = new int[MOST_LETTERS];
        private int longest;
        private int sumOfShared;
        private boolean sorted;

        void forgetAll() {
            count = 0;
            sorted = false;
        }

        void becomeLike(Squawks other) {
            count = other.count;
            for (int place = 0; place < count; place++) {
                letters[place] = other.letters[place];
            }
            sorted = false;
        }

        void hearLetter(int letter) {
            if (count >= MOST_LETTERS) {
                forgetFirst(1);
            }
            letters[count] = letter;
            count++;
            sorted = false;
        }

        void hearWord(Word word) {
            for (int i = 0; i < word.count; i++) {
                hearLetter(word.letters[i]);
            }
        }

        // Those that stood there as it began are kept apart, as hearing moves them.
        void hearLastAgain(int wanted) {
            int again = Math.max(0, Math.min(wanted, count));
            for (int i = 0; i < again; i++) {
                echoed[i] = letters[count - again + i];
            }
            for (int i = 0; i < again; i++) {
                hearLetter(echoed[i]);
            }
        }

        void forgetFirst(int wanted) {
            int gone = Math.max(0, Math.min(wanted, count));
            for (int place = gone; place < count; place++) {
                letters[place - gone] = letters[place];
            }
            count -= gone;
            sorted = false;
        }

        int rankAt(int place) {
            sort();
            return place >= 0 && place < count ? ranks[place] : 0;
        }

        int placeOfRank(int rank) {
            sort();
            return rank >= 0 && rank < count ? places[rank] : 0;
        }

        int sharedWithRankAhead(int rank) {
            sort();
            return rank >= 0 && rank < count ? sharedAhead[rank] : 0;
        }

        int sharedFrom(int place, int other) {
            if (place < 0 || other < 0) {
                return 0;
            }
            int behind = place > other ? place : other;
            int same = 0;
            while (behind + same < count && letters[place + same] == letters[other + same]) {
                same++;
            }
            return same;
        }

        int longestRepeated() {
            sort();
            return longest;
        }

        int sumOfAllShared() {
            sort();
            return sumOfShared;
        }

        // Each squawk begins with as many phrases as it has letters; those that it shares
        // with the rank ahead have been counted there.
        int differentPhrases() {
            sort();
            return count * (count + 1) / 2 - sumOfShared;
        }

        int differentPhrasesWith(int wanted) {
            sort();
            int different = 0;
            for (int rank = 0; rank < count; rank++) {
                if (count - places[rank] >= wanted && sharedAhead[rank] < wanted) {
                    different++;
                }
            }
            return different;
        }

        int repeatedPhrasesWith(int wanted) {
            sort();
            int repeated = 0;
            for (int rank = 1; rank < count; rank++) {
                if (sharedAhead[rank] >= wanted && sharedAhead[rank - 1] < wanted) {
                    repeated++;
                }
            }
            return repeated;
        }

        int firstPlaceOfRepeat() {
            int from = firstRankOfRepeat();
            if (from < 0) {
                return -1;
            }
            int first = places[from];
            for (int rank = from + 1; rank < count && sharedAhead[rank] >= longest; rank++) {
                first = Math.min(first, places[rank]);
            }
            return first;
        }

        int placesOfRepeat() {
            int from = firstRankOfRepeat();
            if (from < 0) {
                return 0;
            }
            int found = 1;
            for (int rank = from + 1; rank < count && sharedAhead[rank] >= longest; rank++) {
                found++;
            }
            return found;
        }

        private int firstRankOfRepeat() {
            sort();
            for (int rank = 1; rank < count; rank++) {
                if (longest > 0 && sharedAhead[rank] == longest) {
                    return rank - 1;
                }
            }
            return -1;
        }

        int endStandingEarlier() {
            int most = 0;
            for (int last = 0; last < count - 1; last++) {
                int same = 0;
                while (same <= last && letters[last - same] == letters[count - 1 - same]) {
                    same++;
                }
                most = Math.max(most, same);
            }
            return most;
        }

        boolean isKnown(Word word) {
            return firstPlaceWith(word) >= 0;
        }

        int placesWith(Word word) {
            int found = 0;
            for (int place = 0; place < count; place++) {
                if (standsAt(word, place)) {
                    found++;
                }
            }
            return found;
        }

        int firstPlaceWith(Word word) {
            for (int place = 0; place < count; place++) {
                if (standsAt(word, place)) {
                    return place;
                }
            }
            return -1;
        }

        int lastPlaceWith(Word word) {
            for (int place = count - 1; place >= 0; place--) {
                if (standsAt(word, place)) {
                    return place;
                }
            }
            return -1;
        }

        int halvingsTo(Word word) {
            sort();
            int low = 0;
            int high = count;
            int steps = 0;
            while (low < high && steps < MOST_LETTERS) {
                steps++;
                int middle = (low + high) / 2;
                if (isAheadOf(word, places[middle])) {
                    low = middle + 1;
                } else {
                    high = middle;
                }
            }
            return steps;
        }

        private boolean standsAt(Word word, int place) {
            if (place < 0 || place + word.count > count) {
                return false;
            }
            for (int i = 0; i < word.count; i++) {
                if (letters[place + i] != word.letters[i]) {
                    return false;
                }
            }
            return true;
        }

        private boolean isAheadOf(Word word, int place) {
            for (int i = 0; i < word.count; i++) {
                if (place + i >= count) {
                    return true;
                }
                if (letters[place + i] != word.letters[i]) {
                    return letters[place + i] < word.letters[i];
                }
            }
            return false;
        }

        // Whoever reads what is sorted calls this ahead.
        private void sort() {
            if (sorted) {
                return;
            }
            for (int place = 0; place < count; place++) {
                ranks[place] = 0;
            }
            for (int apart = 1; apart < count; apart++) {
                rankPairs(apart);
            }
            for (int place = 0; place < count; place++) {
                int rank = ranks[place];
                if (rank >= 0 && rank < count) {
                    places[rank] = place;
                }
            }
            longest = 0;
            sumOfShared = 0;
            for (int rank = 0; rank < count; rank++) {
                sharedAhead[rank] = rank == 0 ? 0 : sharedFrom(places[rank - 1], places[rank]);
                longest = sharedAhead[rank] > longest ? sharedAhead[rank] : longest;
                sumOfShared += sharedAhead[rank];
            }
            sorted = true;
        }

        // From the end on, as two squawks that begin alike share one letter more than those
        // one place farther back: so no pair is compared letter by letter.
        private void rankPairs(int apart) {
            int same = 0;
            for (int place = count - 1 - apart; place >= 0; place--) {
                int other = place + apart;
                same = letters[place] == letters[other] ? same + 1 : 0;
                if (other + same >= count || letters[other + same] < letters[place + same]) {
                    ranks[place]++;
                } else {
                    ranks[other]++;
                }
            }
        }
    }

    /** What changes from day to day, and how a day goes. */
    private static final class Parrot {
        final Squawks squawks = new Squawks();
        int today;
        int carriedOut;
        private final int[] stack = new int[STACK_SIZE];
        private int stackHeight;

        void beginAnew() {
            squawks.forgetAll();
            today = 0;
            carriedOut = 0;
        }

        void becomeLike(Parrot other) {
            squawks.becomeLike(other.squawks);
            today = other.today;
            carriedOut = other.carriedOut;
        }

        void liveDays(int days, Plan plan) {
            for (int lived = 0; lived < days; lived++) {
                for (int i = 0; i < plan.orderCount; i++) {
                    Order order = plan.orders[i];
                    if (holds(order, plan) && carryOut(order, plan)) {
                        carriedOut++;
                    }
                }
                today++;
            }
        }

        private boolean holds(Order order, Plan plan) {
            return order.testFrom == order.testTo
                    || reckon(order.testFrom, order.testTo, plan) != 0;
        }

        private boolean carryOut(Order order, Plan plan) {
            switch (order.action) {
                case HEAR:
                    squawks.hearWord(order.heard);
                    return true;
                case MOCK:
                    squawks.hearWord(plan.insultAt(order.insult));
                    return true;
                case ECHO:
                    return echoSum(reckon(order.sumFrom, order.testFrom, plan));
                case FORGET:
                    return forgetSum(reckon(order.sumFrom, order.testFrom, plan));
                default:
                    return false;
            }
        }

        private boolean echoSum(int sum) {
            boolean can = sum > 0 && squawks.count > 0;
            squawks.hearLastAgain(sum);
            return can;
        }

        private boolean forgetSum(int sum) {
            boolean can = sum > 0 && squawks.count > 0;
            squawks.forgetFirst(sum);
            return can;
        }

        private int reckon(int from, int to, Plan plan) {
            stackHeight = 0;
            for (int at = from; at >= 0 && at < to && at < MOST_TOKENS; at++) {
                doStep(plan.steps[at], plan.operands[at], plan);
            }
            return pop();
        }

        private void doStep(Token step, int operand, Plan plan) {
            switch (step) {
                case NUMBER:
                    push(operand);
                    break;
                case DAY:
                    push(today);
                    break;
                case LENGTH:
                    push(squawks.count);
                    break;
                case LONGEST:
                    push(squawks.longestRepeated());
                    break;
                case KINDS:
                    push(squawks.differentPhrases());
                    break;
                case COUNT:
                    push(squawks.placesWith(plan.insultAt(operand)));
                    break;
                case PLACE:
                    push(squawks.firstPlaceWith(plan.insultAt(operand)));
                    break;
                case KNOWS:
                    push(truth(squawks.isKnown(plan.insultAt(operand))));
                    break;
                case TURN:
                    push(-pop());
                    break;
                case NOT:
                    push(truth(pop() == 0));
                    break;
                default:
                    joinTwo(step);
                    break;
            }
        }

        private void joinTwo(Token step) {
            int right = pop();
            int left = pop();
            switch (step) {
                case PLUS:
                    push(left + right);
                    break;
                case MINUS:
                    push(left - right);
                    break;
                case TIMES:
                    push(left * right);
                    break;
                case OVER:
                    push(right == 0 ? 0 : left / right);
                    break;
                case MIN:
                    push(Math.min(left, right));
                    break;
                case MAX:
                    push(Math.max(left, right));
                    break;
                case AND:
                    push(left & right);
                    break;
                case OR:
                    push(left | right);
                    break;
                default:
                    push(truth(isSo(step, left, right)));
                    break;
            }
        }

        private static boolean isSo(Token comparison, int left, int right) {
            switch (comparison) {
                case LESS:
                    return left < right;
                case MORE:
                    return left > right;
                case EQUAL:
                    return left == right;
                case AT_MOST:
                    return left <= right;
                case AT_LEAST:
                    return left >= right;
                default:
                    return false;
            }
        }

        private static int truth(boolean so) {
            return so ? 1 : 0;
        }

        private void push(int number) {
            if (stackHeight >= 0 && stackHeight < STACK_SIZE) {
                stack[stackHeight] = number;
                stackHeight++;
            }
        }

        private int pop() {
            if (stackHeight <= 0 || stackHeight > STACK_SIZE) {
                return 0;
            }
            stackHeight--;
            return stack[stackHeight];
        }
    }
}
