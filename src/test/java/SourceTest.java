import java.io.IOException;
import java.nio.file.Files;
import java.nio.file.Path;
import java.util.HashMap;
import java.util.List;
import java.util.Map;
import java.util.regex.Matcher;
import java.util.regex.Pattern;

/** What of ../shared/LANGUAGE.md can be seen in the text of the class. */
public final class SourceTest {
    private static final Path SOURCE = Path.of("src/main/java/LogWeave.java");
    private static final int LONGEST_METHOD = 60;
    private static final int MOST_PARAMETERS = 7;
    private static final int MOST_CLASSES = 12;
    private static final int MOST_FIELDS = 20;
    private static final int DEEPEST_CALLS = 8;

    private static final Map<String, String> BODIES = new HashMap<>();

    private SourceTest() {
    }

    public static void main(String[] args) throws IOException {
        String text = Files.readString(SOURCE);
        String code = text.replaceAll("(?s)/\\*.*?\\*/", "").replaceAll("//[^\n]*", "").replaceAll("\"[^\"\n]*\"", "T");
        for (char sign : text.toCharArray()) {
            if (sign > 126 || sign < 32 && sign != '\n') {
                Check.same("a sign", (int) sign, 32);
            }
        }
        forbiddenWords(code);
        imports(code);
        thrownExceptions(code);
        loops(code);
        divisors(code);
        library(code);
        fields(code);
        sizes(code);
        for (String method : BODIES.keySet()) {
            Check.same(method + " does not go too deep", depth(method, 1) <= DEEPEST_CALLS, true);
        }
        Check.end();
    }

    private static int found(String code, String pattern) {
        Matcher matcher = Pattern.compile(pattern).matcher(code);
        int count = 0;
        while (matcher.find()) {
            count++;
        }
        return count;
    }

    private static void forbiddenWords(String code) {
        List<String> forbidden = List.of("->", "::", "\\btry\\b", "\\bcatch\\b", "\\bfinally\\b", "\\bsynchronized\\b",
                "\\bassert\\b", "\\bpackage\\b", "\\bprotected\\b", "\\bvolatile\\b", "\\bnative\\b", "\\bvar\\b",
                "\\bSystem\\.(?!arraycopy)", "\\bRandom\\b", "\\bThread\\b", "\\bMath\\.", "Exact\\b", "\\bequals\\b",
                "\\bhashCode\\b", "\\btoString\\b", "@", "\\bstatic\\s*\\{", "\\bT\\s*\\+", "\\+\\s*T\\b");
        for (String pattern : forbidden) {
            Check.same(pattern, found(code, pattern), 0);
        }
    }

    private static void imports(String code) {
        Check.same("imports", found(code, "\\bimport\\b"), 2);
        Check.same("of ArrayList", found(code, "import java\\.util\\.ArrayList;"), 1);
        Check.same("of the exception", found(code, "import java\\.util\\.NoSuchElementException;"), 1);
    }

    private static void thrownExceptions(String code) {
        String kinds = "IllegalStateException|IllegalArgumentException|IndexOutOfBoundsException|ArithmeticException"
                + "|UnsupportedOperationException|NoSuchElementException";
        Check.same("throws of the kinds", found(code, "\\bthrow new (" + kinds + ")\\(T\\);"),
                found(code, "\\bthrow\\b"));
    }

    /** Each loop counts a number up to a bound, or down to 0; the one that does not so by its head has both in it. */
    private static void loops(String code) {
        String counted = "for \\(int (\\w+) = [^;]+; \\1 (< [^;]+; \\1\\+\\+|>= 0; \\1--)\\) \\{";
        String bounded = "while \\(tooMany > 0 && count < MOST_LINES\\) \\{";
        Check.same("loops that count", found(code, counted), found(code, "\\bfor\\b"));
        Check.same("loops that have a bound", found(code, bounded), found(code, "\\b(while|do)\\b"));
        Check.same("loops were seen", found(code, counted) > 20, true);
    }

    /** No divisor is 0: each is a constant, or was looked at before. */
    private static void divisors(String code) {
        Check.same("divisors", found(code, "[/%]"), found(code,
                "/ ARCHIVED_LINES_FOR_A_TICK\\b|[/%] BITS_IN_A_LONG\\b|/ \\(float\\) all;|/ \\(double\\) count;"));
        Check.same("the number of all lines", found(code, "if \\(all == 0\\) \\{\\s+throw\\b"), 1);
        Check.same("the number of kept lines", found(code, "if \\(count == 0\\) \\{\\s+throw\\b"), 1);
    }

    /** Of the library nothing but lists, by their numbers, and the bits of a long. */
    private static void library(String code) {
        Check.same("calls of lists", found(code, "List\\.(?!(add|get|size)\\()"), 0);
        Check.same("names of lists", found(code, "\\bArrayList\\b"), 1 + 2 * found(code, "new ArrayList<>\\(\\);"));
        Check.same("others", found(code, "\\b(Integer|String|StringBuilder|Arrays|Iterator|List|Object)\\b"), 0);
        Check.same("of Long", found(code, "\\bLong\\b"), found(code, "\\bLong\\.bitCount\\("));
        Check.same("casts", found(code, "\\((int|char|[A-Z]\\w*)\\) "), 0);
    }

    private static void fields(String code) {
        Check.same("fixed for all objects", found(code, "\\bstatic\\b(?! final class\\b)(?![^;=]*\\()"),
                found(code, "private static final (int|char) [A-Z_]+ = (-?\\d+|'\\w');"));
        for (String inside : code.split("\\bclass\\b")) {
            int own = found(inside, "\n +private (?!static\\b)(final )?[\\w<>\\[\\]]+ \\w+( = [^;]+)?;");
            Check.same("few fields in" + inside.lines().findFirst().orElse(""), own <= MOST_FIELDS, true);
        }
    }

    private static void sizes(String code) {
        Check.same("few classes", found(code, "\\bclass\\b") <= MOST_CLASSES, true);
        Matcher heads = Pattern.compile("\n( +)[\\w<>\\[\\] ]+\\(([^)]*)\\)[^;{}]*\\{").matcher(code);
        int methods = 0;
        while (heads.find()) {
            String head = heads.group().strip();
            if (head.matches("(?s)(if|for|while|} else).*")) {
                continue;
            }
            methods++;
            int end = code.indexOf("\n" + heads.group(1) + "}", heads.end() - 1);
            int lines = end < 0 ? 0 : code.substring(heads.start() + 1, end).split("\n").length + 1;
            Check.same(head + " is short", lines <= LONGEST_METHOD, true);
            Check.same(head + " takes few", heads.group(2).split(",").length <= MOST_PARAMETERS, true);
            String name = head.substring(0, head.indexOf('(')).replaceAll(".* ", "");
            String body = end < 0 ? "" : code.substring(heads.end(), end);
            Check.same(head + " has a name of its own", BODIES.put(name, body), null);
        }
        Check.same("methods were seen", methods > 33, true);
    }

    private static int depth(String method, int above) {
        int deepest = above;
        for (String called : BODIES.keySet()) {
            if (above <= DEEPEST_CALLS && found(BODIES.get(method), "\\b" + called + "\\(") > 0) {
                deepest = Math.max(deepest, depth(called, above + 1));
            }
        }
        return deepest;
    }
}
