import java.util.NoSuchElementException;

/** A test of its own for each sentence of the document about lines and patterns: promises 1 to 9. */
public final class LineSentencesTest {
    private static final Class<IllegalArgumentException> ARGUMENT = IllegalArgumentException.class;
    private static final Class<IllegalStateException> STATE = IllegalStateException.class;
    private static final Class<NoSuchElementException> NONE = NoSuchElementException.class;
    private static final int MIN = Integer.MIN_VALUE;
    private static final int MAX = Integer.MAX_VALUE;

    private static final int[] LEAST = {0, 0, 0, 0, 0, 1};
    private static final int[] GREATEST = {3, 4, 99, 99, 99, 99};
    private static final int[] BETWEEN = {1, 2, 33, 44, 55, 66};

    private LineSentencesTest() {
    }

    public static void main(String[] args) {
        all().run();
    }

    static Sentences all() {
        Sentences all = new Sentences();
        addTerms(all);
        addLines(all);
        addPatterns(all);
        return all;
    }

    private static void addTerms(Sentences all) {
        all.add("What it is", "An object is used for at most 512 calls after it has been made; what later calls answer"
                + " is free.", LineSentencesTest::the512thCallIsAnswered);
        all.add("Lines", "At most 200 lines come, numbered from 0.", LineSentencesTest::atMost200Lines);
        all.add("Lines", "A line has a source from 0 to 3, a rank from 0 to 4, three words, at the places 0 to 2, each"
                + " a number from 0 to 99, and bytes from 1 to 99.", LineSentencesTest::whatALineHas);
        all.add("Lines", "It is kept, 'k', as at first, archived, 'a', or dropped, 'd'.",
                LineSentencesTest::theStatesOfALine);
        all.add("Patterns", "A pattern has a source and has at each place a word or a field; patterns are numbered from"
                + " 0 in the order in which they are learned.", LineSentencesTest::patternsAreNumberedAsTheyAreLearned);
        all.add("Patterns", "A line fits a pattern of its source if it has the word of the pattern at each place that"
                + " has one.", LineSentencesTest::whatALineFits);
        all.add("Patterns", "When a line comes, it belongs to the pattern with the lowest number that it fits, of those"
                + " that were not merged into others; if there is none, a pattern with its three words is learned, to"
                + " which it belongs.", LineSentencesTest::theLowestPatternThatItFits);
        String merging = "Then, as long as there are two patterns of this source, none of them merged, that are the"
                + " same at two places, field or word, and not at the third one, the two with the lowest number of the"
                + " first one, and then of the second one, are merged: the one with the lower number has a field at the"
                + " third place, and all lines of the other one belong to it.";
        all.add("Patterns", merging, LineSentencesTest::sameAtTwoPlacesJustMeetsIt);
        all.add("Patterns", merging, LineSentencesTest::aFieldAndAWordAreNotTheSame);
        all.add("Patterns", merging, LineSentencesTest::asLongAsThereAreTwo);
        all.add("Patterns", merging, LineSentencesTest::theTwoWithTheLowestNumbers);
        all.add("Patterns", merging, LineSentencesTest::theLowestOfTheSecondOnes);
        all.add("Clarifications", "Dropped lines are among those whose words values() counts.",
                LineSentencesTest::wordsOfDroppedLines);
    }

    private static void addLines(Sentences all) {
        all.add("Promise 1", "Creates a store without lines, patterns and alerts, at the tick 0; all budgets are 9999.",
                LineSentencesTest::aNewObject);
        all.add("Promise 2", "`source`: the source, 0 to 3", LineSentencesTest::sourcesOfLines);
        all.add("Promise 2", "`rank`: the rank", LineSentencesTest::ranksOfLines);
        all.add("Promise 2", "`first`: the word at the place 0", () -> wordsOfLines(0));
        all.add("Promise 2", "`second`: the word at the place 1", () -> wordsOfLines(1));
        all.add("Promise 2", "`third`: the word at the place 2", () -> wordsOfLines(2));
        all.add("Promise 2", "`bytes`: the bytes", LineSentencesTest::bytesOfLines);
        all.add("Promise 2", "Returns the number of the line.", LineSentencesTest::numbersOfLines);
        all.add("Promise 2", "Throws `IllegalArgumentException` if a number is out of range",
                LineSentencesTest::linesOutOfRange);
        all.add("Promise 2", "Throws `IllegalStateException` if 200 lines have come",
                LineSentencesTest::oneLineTooMany);
        all.add("Promise 3", "Returns the number of lines.", LineSentencesTest::theNumberOfLines);
        all.add("Promise 4", "`line`: the number of the line", () -> firstAndLastLine(LogWeave::stateOf, 'k', 'd'));
        all.add("Promise 4", "Returns 'k', 'a' or 'd'.", LineSentencesTest::kAndAAndD);
        all.add("Promise 4", "Throws `NoSuchElementException` if there is no such line",
                () -> noSuchLine(LogWeave::stateOf));
        all.add("Promise 5", "`line`: the number of the line", () -> firstAndLastLine(LogWeave::patternOf, 0, 1));
        all.add("Promise 5", "Returns the number of the pattern.", LineSentencesTest::thePatternOfALine);
        all.add("Promise 5", "Throws `NoSuchElementException` if there is no such line",
                () -> noSuchLine(LogWeave::patternOf));
    }

    private static void addPatterns(Sentences all) {
        String none = "Throws `NoSuchElementException` if there is no such pattern, or it was merged into another one";
        String place = "Throws `IllegalArgumentException` if the place is out of range";
        all.add("Promise 6", "`source`: the source, 0 to 3", LineSentencesTest::patternsOfEachSource);
        all.add("Promise 6", "Returns the number of patterns.", LineSentencesTest::theNumberOfPatterns);
        all.add("Promise 6", "Throws `IllegalArgumentException` if the source is out of range",
                () -> Check.refuses(Stores.withLines(2), ARGUMENT, LogWeave::patterns, Check.beyond(0, 3)));
        all.add("Promise 7", "`pattern`: the number of the pattern",
                () -> firstAndLastPattern((store, pattern) -> store.wordAt(pattern, 0), 0, 99));
        all.add("Promise 7", "`place`: the place, 0 to 2", LineSentencesTest::placesOfWords);
        all.add("Promise 7", "Returns the word, or -1 if it has a field there.", LineSentencesTest::aWordOrAField);
        all.add("Promise 7", none, () -> noSuchPattern((store, pattern) -> store.wordAt(pattern, 0)));
        all.add("Promise 7", none, () -> noSuchPattern((store, pattern) -> store.wordAt(pattern, 2)));
        all.add("Promise 7", place, () -> noSuchPlace((store, number) -> store.wordAt(0, number)));
        all.add("Promise 8", "`pattern`: the number of the pattern",
                () -> firstAndLastPattern(LogWeave::linesOf, 1, 1));
        all.add("Promise 8", "Returns the number of lines.", LineSentencesTest::theNumberOfLinesOfAPattern);
        all.add("Promise 8", none, () -> noSuchPattern(LogWeave::linesOf));
        all.add("Promise 9", "`pattern`: the number of the pattern",
                () -> firstAndLastPattern((store, pattern) -> store.values(pattern, 2), 1, 1));
        all.add("Promise 9", "`place`: the place, 0 to 2", LineSentencesTest::placesOfValues);
        all.add("Promise 9", "Returns the number of words, 1 if it has no field there.",
                LineSentencesTest::theNumberOfWords);
        all.add("Promise 9", none, () -> noSuchPattern((store, pattern) -> store.values(pattern, 0)));
        all.add("Promise 9", none, () -> noSuchPattern((store, pattern) -> store.values(pattern, 2)));
        all.add("Promise 9", place, () -> noSuchPlace((store, number) -> store.values(0, number)));
    }

    // Terms

    private static void the512thCallIsAnswered() {
        LogWeave store = new LogWeave();
        int calls = 0;
        for (int alert = 0; alert < 6; alert++, calls++) {
            store.addAlert(0, 0, -1, 0, 1, 1, 0);
        }
        for (int line = 0; line < 200; line++, calls++) {
            store.addLine(0, 4, line % 100, line % 7, line % 3, 99);
            store.pass(1);
            calls++;
        }
        for (; calls < 509; calls++) {
            Check.same("firings", store.firings(), 1200);
        }
        Check.same("the call 510", store.ground(1199), 1);
        Check.same("the call 511", store.isSound(), true);
        Check.same("the call 512", store.tick(), 200);
    }

    private static void atMost200Lines() {
        LogWeave store = new LogWeave();
        for (int i = 0; i < 200; i++) {
            Check.same("the number", Stores.line(store, i % 4, 0, 1), i);
        }
        Check.fails(store, "the line 200", STATE, () -> Stores.line(store, 0, 0, 1));
        Check.same("lines", store.lines(), 200);
        Check.same("the last one", store.stateOf(199), 'k');
    }

    private static int add(LogWeave store, int[] n) {
        return store.addLine(n[0], n[1], n[2], n[3], n[4], n[5]);
    }

    private static void whatALineHas() {
        LogWeave least = new LogWeave();
        Check.same("the least of all", add(least, LEAST), 0);
        LogWeave greatest = new LogWeave();
        Check.same("the greatest of all", add(greatest, GREATEST), 0);
        for (int i = 0; i < LEAST.length; i++) {
            LogWeave store = new LogWeave();
            for (int edge : new int[] {LEAST[i], GREATEST[i]}) {
                int[] numbers = BETWEEN.clone();
                numbers[i] = edge;
                Check.same("the number " + i + " of it is " + edge, Check.answerOf(() -> add(store, numbers)),
                        edge == LEAST[i] ? 0 : 1);
            }
        }
    }

    private static void theStatesOfALine() {
        LogWeave store = Stores.withLines(3);
        Check.same("at first", Stores.states(store), "kkk");
        store.archive(1);
        Check.same("archived", Stores.states(store), "kak");
        store.setBudget(0, 19);
        Check.same("dropped", Stores.states(store), "dak");
        Stores.line(store, 0, 1, 99);
        Check.same("dropped as it comes", Stores.states(store), "dakd");
    }

    private static void patternsAreNumberedAsTheyAreLearned() {
        LogWeave store = new LogWeave();
        for (int source = 3; source >= 0; source--) {
            int line = store.addLine(source, 0, 1, 1, 1, 1);
            Check.same("of the source " + source, store.patternOf(line), 3 - source);
        }
        store.addLine(0, 0, 1, 1, 2, 1);
        Check.same("one that is merged at once", store.patternOf(4), 3);
        store.addLine(0, 0, 5, 5, 5, 1);
        Check.same("used a number", store.patternOf(5), 5);
        Check.fails(store, "which is no pattern now", NONE, () -> store.linesOf(4));
        Check.same("a word", store.wordAt(3, 1), 1);
        Check.same("a field", store.wordAt(3, 2), -1);
    }

    /** Its pattern 0 has a field at each place, after the eighth line. */
    private static LogWeave withThreeFields() {
        return Stores.withWords(Stores.words(1, 1, 1), Stores.words(2, 1, 1), Stores.words(3, 2, 1),
                Stores.words(4, 2, 1), Stores.words(1, 1, 2), Stores.words(2, 1, 2), Stores.words(3, 2, 2),
                Stores.words(4, 2, 2));
    }

    private static void whatALineFits() {
        for (int place = 0; place < 3; place++) {
            LogWeave store = Stores.withWords(Stores.words(50, 50, 50));
            int[] words = Stores.words(50, 50, 50);
            words[place] = 51;
            words[(place + 1) % 3] = 49;
            store.addLine(0, 0, words[0], words[1], words[2], 1);
            Check.same("two words are others", store.patternOf(1), 1);
            store.addLine(0, 0, 50, 50, 50, 1);
            Check.same("all words are the same", store.patternOf(2), 0);
            store.addLine(1, 0, 50, 50, 50, 1);
            Check.same("another source's line", store.patternOf(3), 2);
        }
        LogWeave store = withThreeFields();
        Check.same("one pattern", store.patterns(0), 1);
        for (int place = 0; place < 3; place++) {
            Check.same("has a field at " + place, store.wordAt(0, place), -1);
        }
        store.addLine(0, 0, 99, 99, 99, 1);
        Check.same("each line fits it", store.patternOf(8), 0);
        store.addLine(0, 0, 0, 0, 0, 1);
        Check.same("each line fits it", store.patternOf(9), 0);
        store.addLine(3, 0, 0, 0, 0, 1);
        Check.same("but not that of another source", store.patternOf(10), 8);
        Check.same("the lines of it", store.linesOf(0), 10);
    }

    private static void theLowestPatternThatItFits() {
        int[][] atPlace0 = {Stores.words(2, 5, 6), Stores.words(3, 5, 6)};
        int[][] atPlace1 = {Stores.words(1, 7, 6), Stores.words(1, 8, 6)};
        LogWeave first0 = Stores.withWords(atPlace0[0], atPlace0[1], atPlace1[0], atPlace1[1]);
        LogWeave first1 = Stores.withWords(atPlace1[0], atPlace1[1], atPlace0[0], atPlace0[1]);
        for (LogWeave store : new LogWeave[] {first0, first1}) {
            Check.same("two patterns", store.patterns(0), 2);
            Check.same("the other pattern", store.patternOf(2), 2);
            store.addLine(0, 0, 1, 5, 6, 1);
            Check.same("it fits both", store.patternOf(4), 0);
            Check.same("none is learned", store.patterns(0), 2);
        }
        Check.same("the field of the lower one", first0.wordAt(0, 0), -1);
        Check.same("the field of the lower one", first1.wordAt(0, 1), -1);
        first0.addLine(0, 0, 1, 9, 6, 1);
        Check.same("it fits the higher one alone", first0.patternOf(5), 2);
        first0.addLine(0, 0, 9, 9, 6, 1);
        Check.same("it fits none", first0.patternOf(6), 4);
        Check.same("with its words", first0.wordAt(4, 0), 9);
        Check.same("with its words", first0.wordAt(4, 1), 9);
        Check.same("with its words", first0.wordAt(4, 2), 6);
    }

    private static void sameAtTwoPlacesJustMeetsIt() {
        for (int other = 0; other < 3; other++) {
            int[] words = Stores.words(0, 99, 0);
            words[other] = 50;
            LogWeave store = Stores.withWords(Stores.words(0, 99, 0), words);
            Check.same("the same at two places", store.patterns(0), 1);
            Check.same("all lines belong to the lower one", store.linesOf(0), 2);
            for (int place = 0; place < 3; place++) {
                Check.same("a field at the third place alone", store.wordAt(0, place) == -1, place == other);
            }
            words[(other + 1) % 3] = 51;
            LogWeave apart = Stores.withWords(Stores.words(0, 99, 0), words);
            Check.same("the same at one place", apart.patterns(0), 2);
            LogWeave sources = Stores.withWords(Stores.words(0, 99, 0));
            sources.addLine(1, 0, other == 0 ? 50 : 0, other == 1 ? 50 : 99, other == 2 ? 50 : 0, 1);
            Check.same("of two sources", sources.patterns(0) + sources.patterns(1), 2);
        }
        LogWeave none = Stores.withWords(Stores.words(1, 2, 3), Stores.words(4, 5, 6));
        Check.same("the same at no place", none.patterns(0), 2);
    }

    /** (*, 1, 1) and (*, 2, 1) make (*, *, 1), which is the same as (5, *, 1) but for the field at the place 0. */
    private static void aFieldAndAWordAreNotTheSame() {
        int[][] fields1 = {Stores.words(1, 1, 1), Stores.words(2, 1, 1)};
        int[][] fields2 = {Stores.words(3, 2, 1), Stores.words(4, 2, 1)};
        int[][] word = {Stores.words(5, 8, 1), Stores.words(5, 9, 1)};
        for (int[][][] groups : new int[][][][] {{fields1, word, fields2}, {word, fields1, fields2}}) {
            LogWeave store = new LogWeave();
            for (int[][] group : groups) {
                store.addLine(0, 0, group[0][0], group[0][1], group[0][2], 1);
                Check.same("nothing is merged yet", store.patternOf(store.lines() - 1), store.lines() - 1);
                store.addLine(0, 0, group[1][0], group[1][1], group[1][2], 1);
            }
            Check.same("all are merged", store.patterns(0), 1);
            Check.same("all lines belong to it", store.linesOf(0), 6);
            Check.same("a field at 0", store.wordAt(0, 0), -1);
            Check.same("a field at 1", store.wordAt(0, 1), -1);
            Check.same("a word at 2", store.wordAt(0, 2), 1);
        }
        LogWeave apart = Stores.withWords(fields1[0], fields1[1], Stores.words(5, 8, 1));
        Check.same("a field and a word at one place, and two words at another", apart.patterns(0), 2);
    }

    private static void asLongAsThereAreTwo() {
        LogWeave store = withThreeFields();
        Check.same("the last line led to three merges", store.patterns(0), 1);
        for (int line = 0; line < 8; line++) {
            Check.same("the line " + line, store.patternOf(line), 0);
        }
        for (int pattern = 1; pattern < 8; pattern++) {
            int number = pattern;
            Check.fails(store, "the pattern " + pattern, NONE, () -> store.linesOf(number));
        }
    }

    /** Before the last line no two of the patterns 0 to 2 are the same at two places, but it is with each of them. */
    private static void theTwoWithTheLowestNumbers() {
        int[][] words = {Stores.words(9, 5, 5), Stores.words(5, 9, 5), Stores.words(5, 5, 9)};
        for (int first = 0; first < 3; first++) {
            LogWeave store = Stores.withWords(words[first], words[(first + 1) % 3], words[(first + 2) % 3]);
            Check.same("three patterns", store.patterns(0), 3);
            store.addLine(0, 0, 5, 5, 5, 1);
            Check.same("it is merged with the lowest", store.patternOf(3), 0);
            Check.same("and with no other", store.patterns(0), 3);
            Check.same("a field where they differ", store.wordAt(0, first), -1);
            Check.same("the others as before", store.linesOf(1) + store.linesOf(2), 2);
        }
        LogWeave store = Stores.withWords(Stores.words(8, 8, 8), words[1], words[2]);
        store.addLine(0, 0, 5, 5, 5, 1);
        Check.same("0 is not like it, the next one is", store.patternOf(3), 1);
        Check.same("and then not the one after", store.patterns(0), 3);
    }

    /** The last line makes (*, 1, 1) of (1, 1, 1), which is the same at two places as (*, 2, 1) and as (*, 1, 2). */
    private static void theLowestOfTheSecondOnes() {
        int[][] one = {Stores.words(1, 1, 1)};
        int[][] other1 = {Stores.words(3, 2, 1), Stores.words(4, 2, 1)};
        int[][] other2 = {Stores.words(5, 1, 2), Stores.words(6, 1, 2)};
        checkMerge(new int[][][] {one, other1, other2}, 1, "(*, *, 1) and (*, 1, 2)");
        checkMerge(new int[][][] {one, other2, other1}, 2, "(*, 1, *) and (*, 2, 1)");
        checkMerge(new int[][][] {other1, one, other2}, 1, "(*, *, 1), of the lower first one");
        checkMerge(new int[][][] {other2, one, other1}, 2, "(*, 1, *), of the lower first one");
        checkMerge(new int[][][] {other1, other2, one}, 1, "(*, *, 1), of the lowest first one");
        checkMerge(new int[][][] {other2, other1, one}, 2, "(*, 1, *), of the lowest first one");
    }

    private static void checkMerge(int[][][] groups, int field, String what) {
        LogWeave store = new LogWeave();
        for (int[][] group : groups) {
            for (int[] w : group) {
                store.addLine(0, 0, w[0], w[1], w[2], 1);
            }
        }
        Check.same(what + ", of three", store.patterns(0), 3);
        int last = store.addLine(0, 0, 2, 1, 1, 1);
        Check.same(what + ", two are left", store.patterns(0), 2);
        Check.same(what + ", the line", store.patternOf(last), 0);
        Check.same(what + ", at 0", store.wordAt(0, 0), -1);
        Check.same(what + ", at 1", store.wordAt(0, 1), field == 1 ? -1 : 1);
        Check.same(what + ", at 2", store.wordAt(0, 2), field == 2 ? -1 : 1);
        Check.same(what + ", the lines", store.linesOf(0), 4);
    }

    private static void wordsOfDroppedLines() {
        LogWeave store = Stores.withWords(Stores.words(1, 1, 0), Stores.words(1, 1, 63), Stores.words(1, 1, 64),
                Stores.words(1, 1, 99));
        store.archive(2);
        Check.same("three are dropped", store.setBudget(0, 0), 3);
        Check.same("and counted", store.values(0, 2), 4);
        store.addLine(0, 0, 1, 1, 5, 9);
        Check.same("one that is dropped as it comes", store.stateOf(4), 'd');
        Check.same("is counted", store.values(0, 2), 5);
        Check.same("without a field", store.values(0, 0), 1);
    }

    // Promises 1 to 5

    private static void aNewObject() {
        LogWeave store = new LogWeave();
        Check.same("lines", store.lines(), 0);
        Check.same("tick", store.tick(), 0);
        Check.same("firings", store.firings(), 0);
        Check.same("bytes", store.bytes(), 0L);
        Check.fails(store, "no pattern", NONE, () -> store.linesOf(0));
        Check.fails(store, "no alert", IndexOutOfBoundsException.class, () -> store.alertState(0));
        for (int source = 0; source < 4; source++) {
            Check.same("patterns", store.patterns(source), 0);
            LogWeave full = new LogWeave();
            for (int i = 0; i < 101; i++) {
                Stores.line(full, source, 1, 99);
            }
            Check.same("9999 bytes are within the budget", full.dropped(source), 0);
            Stores.line(full, source, 1, 1);
            Check.same("10000 bytes are not", full.dropped(source), 1);
        }
    }

    private static void sourcesOfLines() {
        for (int source : new int[] {0, 3}) {
            LogWeave store = new LogWeave();
            Stores.line(store, source, 0, 7);
            for (int other = 0; other < 4; other++) {
                Check.same("bytes of " + other, store.kept(other), other == source ? 7 : 0);
                Check.same("patterns of " + other, store.patterns(other), other == source ? 1 : 0);
            }
        }
    }

    private static void ranksOfLines() {
        for (int rank : new int[] {0, 4}) {
            LogWeave store = new LogWeave();
            Stores.line(store, 0, rank, 7);
            Check.same("the mean of one", store.meanRank(), (double) rank);
        }
    }

    private static void wordsOfLines(int place) {
        for (int word : new int[] {0, 99}) {
            int[] words = Stores.words(50, 50, 50);
            words[place] = word;
            LogWeave store = Stores.withWords(words);
            for (int i = 0; i < 3; i++) {
                Check.same("the word at " + i, store.wordAt(0, i), i == place ? word : 50);
            }
        }
    }

    private static void bytesOfLines() {
        for (int bytes : new int[] {1, 99}) {
            LogWeave store = new LogWeave();
            Stores.line(store, 0, 0, bytes);
            Check.same("kept", store.kept(0), bytes);
            Check.same("bytes", store.bytes(), (long) bytes);
        }
    }

    private static void numbersOfLines() {
        LogWeave store = new LogWeave();
        Check.same("the first", Stores.line(store, 3, 0, 1), 0);
        Check.fails(store, "one that is refused", ARGUMENT, () -> Stores.line(store, 3, 0, 0));
        Check.same("takes no number", Stores.line(store, 0, 0, 1), 1);
        while (store.lines() < 199) {
            Stores.line(store, 1, 0, 1);
        }
        Check.same("the last", Stores.line(store, 1, 0, 1), 199);
    }

    private static void linesOutOfRange() {
        LogWeave store = Stores.withLines(2);
        Check.refusesEach(store, ARGUMENT, LineSentencesTest::add, LEAST, GREATEST, BETWEEN);
        Check.same("the next number", add(store, BETWEEN), 2);
    }

    private static void oneLineTooMany() {
        LogWeave store = Stores.withLines(199);
        Check.same("the last", add(store, BETWEEN), 199);
        Check.fails(store, "one that fits a pattern", STATE, () -> add(store, BETWEEN));
        Check.fails(store, "one that fits none", STATE, () -> add(store, LEAST));
        store.archive(0);
        store.setBudget(0, 0);
        store.pass(50);
        Check.fails(store, "archived and dropped ones have come", STATE, () -> add(store, GREATEST));
    }

    private static void theNumberOfLines() {
        LogWeave store = new LogWeave();
        Check.same("none", store.lines(), 0);
        Stores.line(store, 0, 0, 1);
        Check.same("one", store.lines(), 1);
        store.setBudget(0, 0);
        Check.same("a dropped one", store.lines(), 1);
        Stores.line(store, 1, 0, 1);
        store.archive(1);
        Check.same("an archived one", store.lines(), 2);
        Check.fails(store, "one that is refused", ARGUMENT, () -> Stores.line(store, 4, 0, 1));
        while (store.lines() < 199) {
            Stores.line(store, 1, 0, 1);
        }
        Stores.line(store, 1, 0, 1);
        Check.same("all", store.lines(), 200);
    }

    /** What is asked of the first and the last of 200 lines; the last one has a pattern of its own, and is dropped. */
    private static void firstAndLastLine(Check.Asked asked, Object first, Object last) {
        LogWeave store = Stores.withLines(199);
        store.addLine(1, 0, 1, 1, 1, 1);
        store.setBudget(1, 0);
        Check.same("of the line 0", asked.of(store, 0), first);
        Check.same("of the line 198", asked.of(store, 198), first);
        Check.same("of the line 199", asked.of(store, 199), last);
    }

    private static void noSuchLine(Check.Asked asked) {
        Check.refuses(new LogWeave(), NONE, asked, -1, 0, 1, MIN, MAX);
        Check.refuses(Stores.withLines(1), NONE, asked, -1, 1, 2, MIN, MAX);
        Check.refuses(Stores.withLines(200), NONE, asked, -1, 200, 256, MIN, MAX);
    }

    private static void kAndAAndD() {
        LogWeave store = Stores.withLines(3);
        store.archive(0);
        store.setBudget(0, 10);
        Check.same("archived", store.stateOf(0), 'a');
        Check.same("dropped", store.stateOf(1), 'd');
        Check.same("kept", store.stateOf(2), 'k');
        store.setBudget(0, 9999);
        store.pass(50);
        Check.same("they stay", Stores.states(store), "adk");
    }

    private static void thePatternOfALine() {
        LogWeave store = Stores.withMostPatterns();
        for (int line = 0; line < 200; line++) {
            Check.same("of the line " + line, store.patternOf(line), line);
        }
        LogWeave merged = Stores.withWords(Stores.words(1, 1, 1), Stores.words(7, 7, 7), Stores.words(2, 1, 1));
        Check.same("the one into which its own was merged", merged.patternOf(2), 0);
        Check.same("of another one", merged.patternOf(1), 1);
        merged.setBudget(0, 0);
        Check.same("of a dropped one", merged.patternOf(2), 0);
    }

    // Promises 6 to 9

    private static void patternsOfEachSource() {
        for (int source : new int[] {0, 3}) {
            LogWeave store = new LogWeave();
            store.addLine(source, 0, 1, 1, 1, 1);
            store.addLine(source, 0, 5, 5, 5, 1);
            for (int other = 0; other < 4; other++) {
                Check.same("of " + other, store.patterns(other), other == source ? 2 : 0);
            }
        }
    }

    private static void theNumberOfPatterns() {
        Check.same("none", new LogWeave().patterns(0), 0);
        Check.same("one", Stores.withLines(200).patterns(0), 1);
        Check.same("one of two", Stores.withWords(Stores.words(1, 1, 1), Stores.words(1, 1, 2)).patterns(0), 1);
        LogWeave most = Stores.withMostPatterns();
        Check.same("one for each line", most.patterns(0), 200);
        Check.same("another source has none", most.patterns(1), 0);
        most.setBudget(0, 0);
        Check.same("those of dropped lines too", most.patterns(0), 200);
    }

    private static void firstAndLastPattern(Check.Asked asked, Object first, Object last) {
        LogWeave store = Stores.withMostPatterns();
        Check.same("of the pattern 0", asked.of(store, 0), first);
        Check.same("of the pattern 199", asked.of(store, 199), last);
    }

    private static void placesOfWords() {
        LogWeave store = Stores.withWords(Stores.words(7, 8, 9));
        Check.same("at 0", store.wordAt(0, 0), 7);
        Check.same("at 1", store.wordAt(0, 1), 8);
        Check.same("at 2", store.wordAt(0, 2), 9);
    }

    private static void aWordOrAField() {
        LogWeave store = Stores.withWords(Stores.words(0, 99, 0));
        Check.same("the least word", store.wordAt(0, 0), 0);
        Check.same("the greatest word", store.wordAt(0, 1), 99);
        store.addLine(0, 0, 99, 99, 0, 1);
        Check.same("a field", store.wordAt(0, 0), -1);
        Check.same("a word", store.wordAt(0, 1), 99);
        Check.same("a word", store.wordAt(0, 2), 0);
        store.addLine(0, 0, 0, 99, 0, 1);
        Check.same("a field stays one", store.wordAt(0, 0), -1);
    }

    private static void noSuchPattern(Check.Asked asked) {
        Check.refuses(new LogWeave(), NONE, asked, -1, 0, 1, MIN, MAX);
        Check.refuses(Stores.withLines(1), NONE, asked, -1, 1, 2, MIN, MAX);
        Check.refuses(Stores.withMostPatterns(), NONE, asked, -1, 200, 256, MIN, MAX);
        LogWeave merged = Stores.withWords(Stores.words(1, 1, 1), Stores.words(1, 1, 2), Stores.words(5, 5, 5));
        Check.refuses(merged, NONE, asked, 1, 3);
        Check.same("not merged", Check.answerOf(() -> asked.of(merged, 0)) instanceof Integer, true);
        Check.same("not merged", Check.answerOf(() -> asked.of(merged, 2)) instanceof Integer, true);
        Check.refuses(withThreeFields(), NONE, asked, 1, 2, 3, 4, 5, 6, 7, 8);
    }

    private static void noSuchPlace(Check.Asked asked) {
        Check.refuses(Stores.withLines(1), ARGUMENT, asked, Check.beyond(0, 2));
        Check.refuses(withThreeFields(), ARGUMENT, asked, Check.beyond(0, 2));
    }

    private static void theNumberOfLinesOfAPattern() {
        Check.same("one", Stores.withLines(1).linesOf(0), 1);
        LogWeave store = Stores.withLines(199);
        store.addLine(0, 0, 1, 1, 2, 10);
        Check.same("all, one of them by a merge", store.linesOf(0), 200);
        store.archive(0);
        store.setBudget(0, 0);
        Check.same("archived and dropped ones too", store.linesOf(0), 200);
        LogWeave two = Stores.withWords(Stores.words(1, 1, 1), Stores.words(5, 5, 5), Stores.words(5, 5, 5));
        Check.same("not those of another one", two.linesOf(0), 1);
        Check.same("its own", two.linesOf(1), 2);
    }

    private static void placesOfValues() {
        LogWeave store = withThreeFields();
        Check.same("at 0", store.values(0, 0), 4);
        Check.same("at 1", store.values(0, 1), 2);
        Check.same("at 2", store.values(0, 2), 2);
    }

    private static void theNumberOfWords() {
        LogWeave one = Stores.withLines(200);
        for (int place = 0; place < 3; place++) {
            Check.same("without a field at " + place, one.values(0, place), 1);
            LogWeave store = new LogWeave();
            for (int i = 0; i < 200; i++) {
                int[] words = Stores.words(1, 1, 1);
                words[place] = i % 100;
                store.addLine(0, 0, words[0], words[1], words[2], 1);
                Check.same("after the line " + i, store.values(0, place), Math.min(i + 1, 100));
            }
            Check.same("without a field", store.values(0, (place + 1) % 3), 1);
        }
    }
}
