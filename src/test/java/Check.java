/** Counts the answers that are not the due ones, and hands texts to a parrot. */
final class Check {

    interface Call {
        long answer();
    }

    private static int wrong = 0;
    private static String sentence = "";

    private Check() {
    }

    /** What follows looks whether these words of the document hold. */
    static void sentence(String words) {
        sentence = "(" + words + ") ";
    }

    private static void tellWrong(String what) {
        wrong++;
        System.out.println(sentence + what);
    }

    static void due(String call, long got, long want) {
        if (got != want) {
            tellWrong(call + " answered " + got + ", due is " + want);
        }
    }

    static void due(String call, boolean got, boolean want) {
        due(call, got ? 1 : 0, want ? 1 : 0);
    }

    static void dueMean(String call, double got, double want) {
        if (got != want) {
            tellWrong(call + " answered " + got + ", due is " + want);
        }
    }

    /** The call must throw an exception of this very class. */
    static void dueThrow(String name, Class<? extends RuntimeException> want, Call call) {
        try {
            long got = call.answer();
            tellWrong(name + " answered " + got + ", due is " + want.getSimpleName());
        } catch (RuntimeException e) {
            if (e.getClass() != want) {
                tellWrong(name + " threw " + e + ", due is " + want.getSimpleName());
            }
        }
    }

    static void dueNoPlace(String name, Call call) {
        dueThrow(name, IndexOutOfBoundsException.class, call);
    }

    static void dueNoArgument(String name, Call call) {
        dueThrow(name, IllegalArgumentException.class, call);
    }

    /** Fills the empty tape with these bytes. */
    static void feed(ParrotSquawks parrot, String text) {
        StringBuilder padded = new StringBuilder(text);
        while (padded.length() % 20 != 0) {
            padded.append(' ');
        }
        for (int at = 0; at < padded.length(); at += 20) {
            parrot.feed(four(padded, at), four(padded, at + 4), four(padded, at + 8),
                    four(padded, at + 12), four(padded, at + 16));
        }
        parrot.trim(text.length());
    }

    private static int four(StringBuilder text, int at) {
        return text.charAt(at) << 24 | text.charAt(at + 1) << 16 | text.charAt(at + 2) << 8
                | text.charAt(at + 3);
    }

    static int teach(ParrotSquawks parrot, String text) {
        feed(parrot, text);
        return parrot.teach();
    }

    static void dueError(String plan, int error, int at) {
        ParrotSquawks parrot = new ParrotSquawks();
        due("teach() of " + plan, teach(parrot, plan), error);
        due("errorAt() of " + plan, parrot.errorAt(), at);
    }

    static void dueGood(String plan) {
        dueError(plan, 0, -1);
    }

    /** A parrot with this plan, which must be without an error. */
    static ParrotSquawks taught(String plan) {
        ParrotSquawks parrot = new ParrotSquawks();
        due("teach() of " + plan, teach(parrot, plan), 0);
        return parrot;
    }

    /** A parrot that has been taught nothing and has heard these letters. */
    static ParrotSquawks heard(String letters) {
        ParrotSquawks parrot = new ParrotSquawks();
        hear(parrot, letters);
        return parrot;
    }

    static void hear(ParrotSquawks parrot, String letters) {
        for (char letter : letters.toCharArray()) {
            parrot.hear(letter - 'a' + 1);
        }
    }

    static void dueLetters(String when, ParrotSquawks parrot, String want) {
        StringBuilder got = new StringBuilder();
        int there = parrot.length();
        for (int place = 0; place < there; place++) {
            got.append((char) ('a' + parrot.letterAt(place) - 1));
        }
        if (!got.toString().equals(want)) {
            tellWrong(when + " it remembers " + got + ", due is " + want);
        }
    }

    /** The call must throw an exception of this very class, and change nothing. */
    static void dueRefused(ParrotSquawks parrot, String name,
            Class<? extends RuntimeException> want, Call call) {
        long before = parrot.digest();
        int errorBefore = parrot.errorAt();
        dueThrow(name, want, call);
        due("digest() behind the refused " + name, parrot.digest(), before);
        due("errorAt() behind the refused " + name, parrot.errorAt(), errorBefore);
    }

    static void end() {
        System.out.println(wrong == 0 ? "all answers are as due" : wrong + " answers are wrong");
        if (wrong != 0) {
            System.exit(1);
        }
    }
}
