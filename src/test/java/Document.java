import java.io.IOException;
import java.nio.file.Files;
import java.nio.file.Path;
import java.util.ArrayList;
import java.util.List;
import java.util.regex.Matcher;
import java.util.regex.Pattern;

/** The sentences of ../shared/DOC.md: "What it is", those of "Terms" by their paragraphs, the rows of each promise. */
final class Document {
    private static final Path PATH = Path.of("../shared/DOC.md");
    private static final Pattern LABEL = Pattern.compile("^([A-Z][a-z ]+)\\. ");
    private static final Pattern HEADING = Pattern.compile("^(Promise \\d+): ");

    /** A sentence, and whether it must have a test of its own. */
    record Row(String place, String words, boolean due) {
    }

    private Document() {
    }

    static List<Row> rows() throws IOException {
        List<Row> rows = new ArrayList<>();
        for (String section : Files.readString(PATH).split("(?m)^## ")) {
            Matcher promise = HEADING.matcher(section);
            if (promise.find()) {
                addPromise(rows, promise.group(1), section);
            } else if (section.startsWith("Terms")) {
                addTerms(rows, section);
            } else if (section.contains("\n")) {
                int heading = section.indexOf('\n');
                String name = section.substring(0, heading);
                addSentences(rows, name, section.substring(heading).replace('\n', ' '), name.equals("What it is"));
            }
        }
        return rows;
    }

    private static void addTerms(List<Row> rows, String section) {
        String text = section.substring("Terms".length()).strip();
        for (String paragraph : text.split("\n\n+")) {
            String words = paragraph.replace('\n', ' ').strip();
            Matcher label = LABEL.matcher(words);
            if (words.startsWith("Ahead of the calls")) {
                continue;
            }
            if (label.find()) {
                addSentences(rows, label.group(1), words.substring(label.end()), true);
            } else {
                addSentences(rows, "Terms", words, true);
            }
        }
    }

    private static void addSentences(List<Row> rows, String place, String text, boolean due) {
        for (String sentence : text.split("(?<=\\.) +(?=[A-Z])")) {
            rows.add(new Row(place, sentence.strip(), due));
        }
    }

    private static void addPromise(List<Row> rows, String place, String section) {
        for (String paragraph : section.split("\n\n+|\n(?=- )")) {
            String words = paragraph.replace('\n', ' ').strip();
            if (words.startsWith("- ")) {
                rows.add(new Row(place, words.substring(2), true));
            } else if (words.startsWith("Returns ") || words.startsWith("Throws ")) {
                rows.add(new Row(place, words, true));
            } else if (words.startsWith("`") && words.contains("`: ")) {
                rows.add(new Row(place, words.substring(words.indexOf("`: ") + 3), true));
            }
        }
    }
}
