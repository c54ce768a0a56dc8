import java.util.ArrayList;
import java.util.List;

/** Sentences of the document, each with a test that would fail if it did not hold. */
final class Sentences {
    record Sentence(String place, String words, Runnable test) {
    }

    private final List<Sentence> list = new ArrayList<>();

    void add(String place, String words, Runnable test) {
        list.add(new Sentence(place, words, test));
    }

    List<Sentence> list() {
        return list;
    }

    void run() {
        for (Sentence sentence : list) {
            Check.about(sentence.place() + ": " + sentence.words());
            int before = Check.done();
            try {
                sentence.test().run();
            } catch (RuntimeException e) {
                Check.same("the test ends with", e, null);
            }
            Check.same("the test looks at answers", Check.done() > before, true);
        }
        Check.end();
    }
}
