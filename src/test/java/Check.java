/** Counts the answers that are not the due ones, and hands texts to a parrot. */
final class Check {

    interface Call {
        long answer();
    }

    private static int wrong = 0;

    private Check() {
    }

    static void due(String call, long got, long want) {
        if (got != want) {
            wrong++;
            System.out.println(call + " answered " + got + ", due is " + want);
        }
    }

    static void due(String call, boolean got, boolean want) {
        due(call, got ? 1 : 0, want ? 1 : 0);
    }

    static void dueMean(String call, double got, double want) {
        if (got != want) {
            wrong++;
            System.out.println(call + " answered " + got + ", due is " + want);
        }
    }

    /** The call must throw an exception of this very class. */
    static void dueThrow(String name, Class<? extends RuntimeException> want, Call call) {
        try {
            long got = call.answer();
            wrong++;
            System.out.println(name + " answered " + got + ", due is " + want.getSimpleName());
        } catch (RuntimeException e) {
            if (e.getClass() != want) {
                wrong++;
                System.out.println(name + " threw " + e + ", due is " + want.getSimpleName());
            }
        }
    }

    static void dueNoPlace(String name, Call call) {
        dueThrow(name, IndexOutOfBoundsException.class, call);
    }

    static void dueNoArgument(String name, Call call) {
        dueThrow(name, IllegalArgumentException.class, call);
    }

    /** Fills the empty tape with these bytes. */
    static void feed(ParrotSquawks parrot, String text) {
        StringBuilder padded = new StringBuilder(text);
        while (padded.length() % 20 != 0) {
            padded.append(' ');
        }
        for (int at = 0; at < padded.length(); at += 20) {
            parrot.feed(four(padded, at), four(padded, at + 4), four(padded, at + 8),
                    four(padded, at + 12), four(padded, at + 16));
        }
        parrot.trim(text.length());
    }

    private static int four(StringBuilder text, int at) {
        return text.charAt(at) << 24 | text.charAt(at + 1) << 16 | text.charAt(at + 2) << 8
                | text.charAt(at + 3);
    }

    static int teach(ParrotSquawks parrot, String text) {
        feed(parrot, text);
        return parrot.teach();
    }

    /** A parrot with this plan, which must be without an error. */
    static ParrotSquawks taught(String plan) {
        ParrotSquawks parrot = new ParrotSquawks();
        due("teach() of " + plan, teach(parrot, plan), 0);
        return parrot;
    }

    /** A parrot that has been taught nothing and has heard these letters. */
    static ParrotSquawks heard(String letters) {
        ParrotSquawks parrot = new ParrotSquawks();
        hear(parrot, letters);
        return parrot;
    }

    static void hear(ParrotSquawks parrot, String letters) {
        for (char letter : letters.toCharArray()) {
            parrot.hear(letter - 'a' + 1);
        }
    }

    static void dueLetters(String when, ParrotSquawks parrot, String want) {
        StringBuilder got = new StringBuilder();
        for (int place = 0; place < parrot.length(); place++) {
            got.append((char) ('a' + parrot.letterAt(place) - 1));
        }
        if (!got.toString().equals(want)) {
            wrong++;
            System.out.println(when + " it remembers " + got + ", due is " + want);
        }
    }

    static void end() {
        System.out.println(wrong == 0 ? "all answers are as due" : wrong + " answers are wrong");
        if (wrong != 0) {
            System.exit(1);
        }
    }
}
