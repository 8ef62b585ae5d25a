import java.util.Random;

/** Long runs by chance (always the same ones): every answer must be that of the model. */
public final class ModelTest {

    private static final int RUNS = 1500;
    private static final int PLANS = 20000;
    // 512 calls are promised: a step takes at most 125, and the last questions some 255.
    private static final int MOST_CALLS_OF_STEPS = 130;
    private static final int MOST_STEPS = 100;

    private final Random random;
    private final PlanWriter writer;
    private final ParrotSquawks parrot = new ParrotSquawks();
    private final Model model = new Model();
    private String run;
    private int errorAt = -1;
    private int calls;

    private ModelTest(int seed) {
        random = new Random(seed);
        writer = new PlanWriter(random);
        run = "run " + seed;
    }

    public static void main(String[] args) {
        plansHaveTheErrorsOfTheModel();
        for (int seed = 0; seed < RUNS; seed++) {
            new ModelTest(seed).play();
        }
        Check.end();
    }

    private static void plansHaveTheErrorsOfTheModel() {
        PlanWriter writer = new PlanWriter(new Random(1069));
        int[] found = new int[6];
        ParrotSquawks parrot = new ParrotSquawks();
        for (int i = 0; i < PLANS; i++) {
            // Four plans of 2000 bytes are some 420 calls, and 512 are promised.
            parrot = i % 4 == 0 ? new ParrotSquawks() : parrot;
            String text = writer.write();
            ModelLanguage language = new ModelLanguage(text);
            Check.due("plan " + i + ", teach()", Check.teach(parrot, text), language.error);
            Check.due("plan " + i + ", errorAt()", parrot.errorAt(), language.errorAt);
            found[language.error]++;
        }
        for (int error = 0; error < found.length; error++) {
            Check.due("there are many plans with the error " + error, found[error] > 50, true);
        }
    }

    private void play() {
        teach();
        for (int i = 0; i < MOST_STEPS && calls < MOST_CALLS_OF_STEPS; i++) {
            act();
            ask();
        }
        askAtLast();
    }

    private void due(String call, long got, long want) {
        calls++;
        Check.due(run + ": " + call, got, want);
    }

    private void dueNoArgument(String call, Check.Call refused) {
        calls++;
        Check.dueNoArgument(run + ": " + call, refused);
    }

    private void dueNoPlace(String call, Check.Call refused) {
        calls++;
        Check.dueNoPlace(run + ": " + call, refused);
    }

    private void teach() {
        String text = writer.write();
        ModelLanguage language = new ModelLanguage(text);
        Check.feed(parrot, text);
        calls += text.length() / 20 + 2;
        due("teach()", parrot.teach(), language.error);
        errorAt = language.errorAt;
        if (language.error == 0) {
            model.begin(language);
        }
    }

    private void act() {
        int length = model.letters.length();
        switch (random.nextInt(40)) {
            case 0:
                teach();
                break;
            case 1, 2, 3, 4, 5, 6:
                int days = 1 + random.nextInt(random.nextInt(8) == 0 ? 30 : 3);
                due("passDays(" + days + ")", parrot.passDays(days), model.pass(days));
                break;
            case 7, 8, 9, 10, 11, 12, 13:
                int letter = 1 + random.nextInt(random.nextInt(5) == 0 ? 26 : 3);
                model.hear(String.valueOf((char) ('a' + letter - 1)));
                due("hear(" + letter + ")", parrot.hear(letter), model.letters.length());
                break;
            case 14, 15, 16:
                mock(random.nextInt(9));
                break;
            case 17, 18, 19:
                int again = random.nextInt(12);
                if (again < 1 || again > length) {
                    dueNoArgument("echo(" + again + ")", () -> parrot.echo(again));
                } else {
                    model.echo(again);
                    due("echo(" + again + ")", parrot.echo(again), model.letters.length());
                }
                break;
            case 20, 21:
                int gone = random.nextInt(random.nextInt(4) == 0 ? 42 : 8);
                if (gone < 1 || gone > length) {
                    dueNoArgument("forget(" + gone + ")", () -> parrot.forget(gone));
                } else {
                    model.forget(gone);
                    due("forget(" + gone + ")", parrot.forget(gone), model.letters.length());
                }
                break;
            default:
                break;
        }
    }

    private void mock(int insult) {
        if (insult >= model.insults.size()) {
            dueNoPlace("mock(" + insult + ")", () -> parrot.mock(insult));
        } else {
            model.hear(model.insults.get(insult));
            due("mock(" + insult + ")", parrot.mock(insult), model.letters.length());
        }
    }

    private void ask() {
        switch (random.nextInt(16)) {
            case 0 -> askWhole();
            case 1 -> askPlace();
            case 2 -> askRepeat();
            case 3 -> askPhrases(1 + random.nextInt(40));
            case 4 -> askInsult();
            case 5 -> askWhatWouldBe();
            case 6 -> due("digest()", parrot.digest(), model.digest());
            case 7 -> due("kinds()", parrot.kinds(), model.kinds());
            case 8 -> due("mostSaid()", parrot.mostSaid(), model.mostSaid());
            default -> { }
        }
    }

    private void askAtLast() {
        askWhole();
        askRepeat();
        due("mostSaid()", parrot.mostSaid(), model.mostSaid());
        due("digest()", parrot.digest(), model.digest());
        if (random.nextBoolean()) {
            askAllPlaces();
            return;
        }
        for (int letters = 1; letters <= 40; letters++) {
            askPhrases(letters);
        }
        for (int insult = 0; insult < model.insults.size(); insult++) {
            askInsult(insult);
        }
        askWhatWouldBe();
    }

    private void askWhole() {
        due("errorAt()", parrot.errorAt(), errorAt);
        due("length()", parrot.length(), model.letters.length());
        due("insults()", parrot.insults(), model.insults.size());
        due("day()", parrot.day(), model.day);
        due("ordersCarriedOut()", parrot.ordersCarriedOut(), model.carriedOut);
        due("kinds()", parrot.kinds(), model.kinds());
        calls++;
        Check.dueMean(run + ": meanShared()", parrot.meanShared(), model.meanShared());
    }

    private void askAllPlaces() {
        for (int place = 0; place < model.letters.length(); place++) {
            askPlace(place);
        }
        int behind = model.letters.length();
        dueNoPlace("letterAt(" + behind + ")", () -> parrot.letterAt(behind));
        dueNoPlace("placeAt(" + behind + ")", () -> parrot.placeAt(behind));
    }

    private void askPlace() {
        if (!model.letters.isEmpty()) {
            askPlace(random.nextInt(model.letters.length()));
        }
    }

    private void askPlace(int place) {
        due("letterAt(" + place + ")", parrot.letterAt(place),
                model.letters.charAt(place) - 'a' + 1);
        due("rankOf(" + place + ")", parrot.rankOf(place), model.rankOf(place));
        due("placeAt(" + place + ")", parrot.placeAt(place), model.placeAt(place));
        due("sharedAt(" + place + ")", parrot.sharedAt(place), model.sharedAt(place));
        int other = random.nextInt(model.letters.length());
        due("shared(" + place + ", " + other + ")", parrot.shared(place, other),
                model.shared(place, other));
        boolean ahead = model.squawk(place).compareTo(model.squawk(other)) < 0;
        due("isAhead(" + place + ", " + other + ")", parrot.isAhead(place, other) ? 1 : 0,
                ahead ? 1 : 0);
    }

    private void askRepeat() {
        due("longestRepeat()", parrot.longestRepeat(), model.repeat().length());
        due("repeatPlace()", parrot.repeatPlace(), model.repeatPlace());
        due("repeatCount()", parrot.repeatCount(), model.repeatCount());
        due("mockedAtEnd()", parrot.mockedAtEnd(), model.mockedAtEnd());
    }

    private void askPhrases(int letters) {
        due("kindsOf(" + letters + ")", parrot.kindsOf(letters), model.phrases(letters).size());
        due("repeatedOf(" + letters + ")", parrot.repeatedOf(letters),
                model.repeatedOf(letters));
    }

    private void askInsult() {
        if (!model.insults.isEmpty()) {
            askInsult(random.nextInt(model.insults.size()));
        }
    }

    private void askInsult(int insult) {
        String word = model.insults.get(insult);
        due("lettersOf(" + insult + ")", parrot.lettersOf(insult), word.length());
        due("countOf(" + insult + ")", parrot.countOf(insult), model.count(word));
        due("firstOf(" + insult + ")", parrot.firstOf(insult), model.letters.indexOf(word));
        due("lastOf(" + insult + ")", parrot.lastOf(insult), model.letters.lastIndexOf(word));
        due("stepsTo(" + insult + ")", parrot.stepsTo(insult), model.steps(word));
    }

    private void askWhatWouldBe() {
        int days = 1 + random.nextInt(6);
        due("repeatAfter(" + days + ")", parrot.repeatAfter(days), model.repeatAfter(days));
        due("bestLetter()", parrot.bestLetter(), model.bestLetter());
        if (!model.insults.isEmpty()) {
            int insult = random.nextInt(model.insults.size());
            due("daysUntilKnown(" + insult + ")", parrot.daysUntilKnown(insult),
                    model.daysUntilKnown(insult));
        }
        due("digest() behind what would be", parrot.digest(), model.digest());
    }
}
