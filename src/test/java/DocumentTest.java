import java.io.IOException;
import java.util.HashSet;
import java.util.Set;

/** Each sentence of "What it is", "Terms" and the promises has a test of its own, and each such test its sentence. */
public final class DocumentTest {
    private DocumentTest() {
    }

    public static void main(String[] args) throws IOException {
        Set<String> tested = new HashSet<>();
        for (Sentences sentences : new Sentences[] {FirstSentencesTest.all(), LineSentencesTest.all(),
                BudgetSentencesTest.all(), AlertSentencesTest.all(), FiringSentencesTest.all(),
                TickSentencesTest.all()}) {
            for (Sentences.Sentence sentence : sentences.list()) {
                tested.add(sentence.place() + ": " + sentence.words());
            }
        }
        Set<String> written = new HashSet<>();
        int due = 0;
        for (Document.Row row : Document.rows()) {
            String sentence = row.place() + ": " + row.words();
            written.add(sentence);
            if (row.due()) {
                due++;
                Check.same("[" + sentence + "] has a test", tested.contains(sentence), true);
            }
        }
        for (String sentence : tested) {
            Check.same("[" + sentence + "] is a sentence of the document", written.contains(sentence), true);
        }
        Check.same("the sentences that are due", due, 175);
        Check.end();
    }
}
