import java.util.ArrayList;
import java.util.List;
import java.util.function.Consumer;

/** Runs tests, each under the promise and the words of the document that it holds. */
final class Promises {
    private final Doc doc = new Doc();
    private final boolean onlyQuotes;
    private final List<List<String>> quotes = new ArrayList<>();
    private int wrong = 0;

    private Promises(boolean onlyQuotes) {
        this.onlyQuotes = onlyQuotes;
        for (int promise = 0; promise <= Doc.PROMISES; promise++) {
            quotes.add(new ArrayList<>());
        }
    }

    static Promises tested() {
        return new Promises(false);
    }

    /** Runs no test, but keeps what they quote. */
    static Promises quoted() {
        return new Promises(true);
    }

    void holds(int promise, String words, Consumer<Check> test) {
        String title = doc.nameOf(promise) + ", \"" + words + "\"";
        quotes.get(promise).add(words);
        if (!doc.says(promise, words)) {
            wrong++;
            System.out.println(title + ": the document does not say so");
        }
        if (!onlyQuotes) {
            run(title, test);
        }
    }

    /** No call may throw: one that does is told under its test, and the others still run. */
    private void run(String title, Consumer<Check> test) {
        Check check = new Check(title);
        try {
            test.accept(check);
        } catch (RuntimeException e) {
            wrong++;
            System.out.println(title + ": threw " + e);
        }
        wrong += check.wrong();
    }

    void terms(String words, Consumer<Check> test) {
        holds(Doc.TERMS, words, test);
    }

    /** Every sentence of the document has a test that quotes it, or a part of it. */
    void everySentenceIsQuoted() {
        for (int promise = 0; promise <= Doc.PROMISES; promise++) {
            for (String sentence : doc.sentences(promise)) {
                if (!isQuoted(promise, sentence)) {
                    wrong++;
                    System.out.println(doc.nameOf(promise) + ", \"" + sentence + "\": no test");
                }
            }
        }
    }

    private boolean isQuoted(int promise, String sentence) {
        for (String quote : quotes.get(promise)) {
            if (sentence.contains(quote) || quote.contains(sentence)) {
                return true;
            }
        }
        return false;
    }

    void end() {
        if (wrong != 0) {
            System.out.println(wrong + " answers are not as due");
            System.exit(1);
        }
    }
}
