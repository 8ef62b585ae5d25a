import java.util.ArrayList;
import java.util.List;
import java.util.TreeSet;

/**
 * What the document says of letters, squawks, phrases and days, over plain texts and without any
 * thought of speed: all is reckoned anew at every question.
 */
final class Model {

    String letters = "";
    List<String> insults = new ArrayList<>();
    List<ModelLanguage.Order> orders = new ArrayList<>();
    int day = 0;
    int carriedOut = 0;

    Model copy() {
        Model other = new Model();
        other.letters = letters;
        other.insults = insults;
        other.orders = orders;
        other.day = day;
        other.carriedOut = carriedOut;
        return other;
    }

    void begin(ModelLanguage language) {
        letters = "";
        insults = language.insults;
        orders = language.orders;
        day = 0;
        carriedOut = 0;
    }

    // ---- what it remembers

    void hear(String word) {
        String all = letters + word;
        letters = all.substring(Math.max(0, all.length() - 40));
    }

    void echo(int number) {
        hear(letters.substring(letters.length() - inside(number)));
    }

    void forget(int number) {
        letters = letters.substring(inside(number));
    }

    int inside(int number) {
        return Math.max(0, Math.min(number, letters.length()));
    }

    // ---- squawks

    String squawk(int place) {
        return letters.substring(place);
    }

    /** A String that is the beginning of another one comes ahead of it in Java, too. */
    int rankOf(int place) {
        int ahead = 0;
        for (int other = 0; other < letters.length(); other++) {
            if (squawk(other).compareTo(squawk(place)) < 0) {
                ahead++;
            }
        }
        return ahead;
    }

    int placeAt(int rank) {
        for (int place = 0; place < letters.length(); place++) {
            if (rankOf(place) == rank) {
                return place;
            }
        }
        throw new IllegalStateException("no place has the rank " + rank);
    }

    int shared(int place, int other) {
        int shared = 0;
        while (squawk(other).startsWith(squawk(place).substring(0, shared))) {
            shared++;
            if (shared > squawk(place).length()) {
                break;
            }
        }
        return shared - 1;
    }

    int sharedAt(int rank) {
        return rank == 0 ? 0 : shared(placeAt(rank - 1), placeAt(rank));
    }

    double meanShared() {
        double sum = 0;
        for (int rank = 0; rank < letters.length(); rank++) {
            sum += sharedAt(rank);
        }
        return letters.isEmpty() ? 0 : sum / letters.length();
    }

    // ---- phrases

    TreeSet<String> phrases(int length) {
        TreeSet<String> phrases = new TreeSet<>();
        for (int place = 0; place + length <= letters.length(); place++) {
            phrases.add(letters.substring(place, place + length));
        }
        return phrases;
    }

    int kinds() {
        int kinds = 0;
        for (int length = 1; length <= letters.length(); length++) {
            kinds += phrases(length).size();
        }
        return kinds;
    }

    int repeatedOf(int length) {
        int repeated = 0;
        for (String phrase : phrases(length)) {
            if (count(phrase) >= 2) {
                repeated++;
            }
        }
        return repeated;
    }

    /** The longest repeat; empty without one. */
    String repeat() {
        for (int length = letters.length(); length > 0; length--) {
            for (String phrase : phrases(length)) {
                if (count(phrase) >= 2) {
                    return phrase;
                }
            }
        }
        return "";
    }

    int repeatPlace() {
        return repeat().isEmpty() ? -1 : letters.indexOf(repeat());
    }

    int repeatCount() {
        return repeat().isEmpty() ? 0 : count(repeat());
    }

    int mockedAtEnd() {
        for (int length = letters.length(); length > 0; length--) {
            int from = letters.length() - length;
            int first = letters.indexOf(letters.substring(from));
            if (first < from) {
                return length;
            }
        }
        return 0;
    }

    // ---- words

    int count(String word) {
        int count = 0;
        for (int place = 0; place < letters.length(); place++) {
            if (letters.startsWith(word, place)) {
                count++;
            }
        }
        return count;
    }

    int steps(String word) {
        int low = 0;
        int high = letters.length();
        int steps = 0;
        while (low < high) {
            steps++;
            int middle = (low + high) / 2;
            if (squawk(placeAt(middle)).compareTo(word) < 0) {
                low = middle + 1;
            } else {
                high = middle;
            }
        }
        return steps;
    }

    int mostSaid() {
        int most = -1;
        for (int insult = 0; insult < insults.size(); insult++) {
            if (most < 0 || count(insults.get(insult)) > count(insults.get(most))) {
                most = insult;
            }
        }
        return most;
    }

    // ---- days

    int pass(int days) {
        int before = carriedOut;
        for (int i = 0; i < days; i++) {
            for (ModelLanguage.Order order : orders) {
                if (order.isDone(this)) {
                    carriedOut++;
                }
            }
            day++;
        }
        return carriedOut - before;
    }

    int repeatAfter(int days) {
        Model other = copy();
        other.pass(days);
        return other.repeat().length();
    }

    int daysUntilKnown(int insult) {
        Model other = copy();
        for (int days = 0; days <= 30; days++) {
            if (other.letters.contains(insults.get(insult))) {
                return days;
            }
            other.pass(1);
        }
        return -1;
    }

    int bestLetter() {
        int best = 0;
        int longest = -1;
        for (int letter = 1; letter <= 26; letter++) {
            Model other = copy();
            other.hear(String.valueOf((char) ('a' + letter - 1)));
            if (other.repeat().length() > longest) {
                longest = other.repeat().length();
                best = letter;
            }
        }
        return best;
    }

    long digest() {
        List<Integer> numbers = new ArrayList<>(List.of(letters.length(), insults.size(), day,
                carriedOut, kinds(), repeat().length(), repeatPlace(), repeatCount(),
                mockedAtEnd(), mostSaid()));
        for (int place = 0; place < letters.length(); place++) {
            numbers.add(letters.charAt(place) - 'a' + 1);
            numbers.add(rankOf(place));
        }
        for (int rank = 0; rank < letters.length(); rank++) {
            numbers.add(sharedAt(rank));
        }
        for (String insult : insults) {
            numbers.add(count(insult));
            numbers.add(letters.indexOf(insult));
            numbers.add(letters.lastIndexOf(insult));
            numbers.add(steps(insult));
        }
        long d = 1069;
        for (int number : numbers) {
            d = d * 31 + number;
        }
        return d;
    }
}
