import java.util.NoSuchElementException;

/** Promises 1 to 9. */
public final class LinesAndPatternsTest {
    private static final Class<IllegalArgumentException> ARGUMENT = IllegalArgumentException.class;
    private static final Class<IllegalStateException> STATE = IllegalStateException.class;
    private static final Class<NoSuchElementException> NONE = NoSuchElementException.class;

    private LinesAndPatternsTest() {
    }

    public static void main(String[] args) {
        aNewObject();
        linesHaveNumbers();
        linesOutOfRangeAreRefused();
        theEdgesOfRangesAreTaken();
        at200LinesNoMoreCome();
        patternsAreLearned();
        aLineGoesToTheLowestPatternItFits();
        patternsAreMerged();
        theLowestPairIsMergedFirst();
        aMergeLeadsToAnother();
        aNewPatternMergesWithALaterOne();
        aPatternWithAFieldTakesInOneWithAWord();
        patternsOfOtherSourcesAreLeft();
        droppedLinesStay();
        wrongNumbersAreRefused();
        Check.end();
    }

    private static LogWeave with(int[]... words) {
        LogWeave store = new LogWeave();
        for (int[] w : words) {
            store.addLine(0, 0, w[0], w[1], w[2], 1);
        }
        return store;
    }

    private static int[] w(int first, int second, int third) {
        return new int[] {first, second, third};
    }

    private static void aNewObject() {
        LogWeave store = new LogWeave();
        Check.same("lines", store.lines(), 0);
        Check.same("firings", store.firings(), 0);
        Check.same("tick", store.tick(), 0);
        Check.same("bytes", store.bytes(), 0L);
        Check.same("sound", store.isSound(), true);
        for (int source = 0; source < 4; source++) {
            Check.same("patterns", store.patterns(source), 0);
            Check.same("kept", store.kept(source), 0);
            Check.same("dropped", store.dropped(source), 0);
            Check.same("bytes up to the first budget", droppedOf101Lines(source), 0);
            Check.same("bytes beyond the first budget", droppedOf102Lines(source), 1);
        }
        Check.fails(store, "no line", NONE, () -> store.stateOf(0));
        Check.fails(store, "no pattern", NONE, () -> store.linesOf(0));
        Check.fails(store, "no alert", IndexOutOfBoundsException.class, () -> store.counted(0));
    }

    private static LogWeave with101Lines(int source) {
        LogWeave store = new LogWeave();
        for (int i = 0; i < 101; i++) {
            store.addLine(source, 1, 1, 1, 1, 99);
        }
        return store;
    }

    private static int droppedOf101Lines(int source) {
        LogWeave store = with101Lines(source);
        Check.same("kept", store.kept(source), 9999);
        return store.dropped(source);
    }

    private static int droppedOf102Lines(int source) {
        LogWeave store = with101Lines(source);
        store.addLine(source, 0, 1, 1, 1, 1);
        Check.same("the one of the least rank", store.stateOf(101), 'd');
        return store.dropped(source);
    }

    private static void linesHaveNumbers() {
        LogWeave store = new LogWeave();
        Check.same("first line", store.addLine(0, 0, 1, 2, 3, 4), 0);
        Check.same("second line", store.addLine(3, 4, 99, 99, 99, 99), 1);
        Check.same("third line", store.addLine(0, 0, 1, 2, 3, 4), 2);
        Check.same("lines", store.lines(), 3);
        Check.same("state", store.stateOf(0), 'k');
        Check.same("state", store.stateOf(2), 'k');
        Check.same("kept", store.kept(0), 8);
        store.archive(0);
        Check.same("archived", store.stateOf(0), 'a');
        store.setBudget(0, 0);
        Check.same("dropped", store.stateOf(2), 'd');
        Check.same("archived lines are not dropped", store.stateOf(0), 'a');
        Check.same("dropped lines have come", store.lines(), 3);
    }

    private static void linesOutOfRangeAreRefused() {
        LogWeave store = with(w(1, 2, 3));
        Check.fails(store, "source -1", ARGUMENT, () -> store.addLine(-1, 0, 0, 0, 0, 1));
        Check.fails(store, "source 4", ARGUMENT, () -> store.addLine(4, 0, 0, 0, 0, 1));
        Check.fails(store, "rank -1", ARGUMENT, () -> store.addLine(0, -1, 0, 0, 0, 1));
        Check.fails(store, "rank 5", ARGUMENT, () -> store.addLine(0, 5, 0, 0, 0, 1));
        Check.fails(store, "first -1", ARGUMENT, () -> store.addLine(0, 0, -1, 0, 0, 1));
        Check.fails(store, "first 100", ARGUMENT, () -> store.addLine(0, 0, 100, 0, 0, 1));
        Check.fails(store, "second -1", ARGUMENT, () -> store.addLine(0, 0, 0, -1, 0, 1));
        Check.fails(store, "second 100", ARGUMENT, () -> store.addLine(0, 0, 0, 100, 0, 1));
        Check.fails(store, "third -1", ARGUMENT, () -> store.addLine(0, 0, 0, 0, -1, 1));
        Check.fails(store, "third 100", ARGUMENT, () -> store.addLine(0, 0, 0, 0, 100, 1));
        Check.fails(store, "bytes 0", ARGUMENT, () -> store.addLine(0, 0, 0, 0, 0, 0));
        Check.fails(store, "bytes 100", ARGUMENT, () -> store.addLine(0, 0, 0, 0, 0, 100));
        Check.fails(store, "great numbers", ARGUMENT, () -> store.addLine(
                Integer.MIN_VALUE, Integer.MAX_VALUE, Integer.MIN_VALUE, Integer.MAX_VALUE, Integer.MIN_VALUE,
                Integer.MAX_VALUE));
    }

    private static void theEdgesOfRangesAreTaken() {
        LogWeave store = new LogWeave();
        Check.same("the least", store.addLine(0, 0, 0, 0, 0, 1), 0);
        Check.same("the greatest", store.addLine(3, 4, 99, 99, 99, 99), 1);
        Check.same("word", store.wordAt(0, 0), 0);
        Check.same("word", store.wordAt(1, 2), 99);
        Check.same("kept", store.kept(0), 1);
        Check.same("kept", store.kept(3), 99);
    }

    private static void at200LinesNoMoreCome() {
        LogWeave store = new LogWeave();
        store.setBudget(1, 0);
        for (int i = 0; i < 200; i++) {
            Check.same("line", store.addLine(i % 4, i % 5, i / 2, i % 10, i / 2, 1), i);
        }
        Check.same("lines", store.lines(), 200);
        Check.fails(store, "a line too many", STATE, () -> store.addLine(0, 0, 0, 0, 0, 1));
        Check.fails(store, "a line too many, out of range", ARGUMENT, () -> store.addLine(0, 0, 0, 0, 0, 0));
        Check.same("sound", store.isSound(), true);
    }

    private static void patternsAreLearned() {
        LogWeave store = with(w(1, 2, 3), w(1, 4, 5), w(1, 2, 3));
        Check.same("pattern", store.patternOf(0), 0);
        Check.same("pattern", store.patternOf(1), 1);
        Check.same("pattern", store.patternOf(2), 0);
        Check.same("patterns", store.patterns(0), 2);
        Check.same("word", store.wordAt(0, 0), 1);
        Check.same("word", store.wordAt(0, 1), 2);
        Check.same("word", store.wordAt(0, 2), 3);
        Check.same("lines", store.linesOf(0), 2);
        Check.same("lines", store.linesOf(1), 1);
        Check.same("values without a field", store.values(0, 1), 1);
    }

    private static void aLineGoesToTheLowestPatternItFits() {
        LogWeave store = with(w(1, 1, 1), w(5, 7, 8), w(5, 1, 2), w(1, 1, 2));
        Check.same("merged with the lowest", store.patternOf(3), 0);
        Check.same("field", store.wordAt(0, 2), -1);
        store.addLine(0, 0, 5, 1, 8, 1);
        Check.same("both 1 and 2 are alike: the lower one", store.patternOf(4), 1);
        Check.same("1 has a field", store.wordAt(1, 1), -1);
        Check.same("2 stays", store.wordAt(2, 1), 1);
        store.addLine(0, 0, 5, 1, 8, 1);
        Check.same("fits 1", store.patternOf(5), 1);
        store.addLine(0, 0, 5, 1, 2, 1);
        Check.same("fits 2", store.patternOf(6), 2);
        store.addLine(0, 0, 1, 1, 99, 1);
        Check.same("fits 0", store.patternOf(7), 0);
        Check.same("no pattern learned for it", store.patterns(0), 3);
    }

    private static void patternsAreMerged() {
        for (int place = 0; place < 3; place++) {
            int[] other = w(1, 2, 3);
            other[place] = 9;
            LogWeave store = with(w(1, 2, 3), other);
            for (int i = 0; i < 3; i++) {
                Check.same("word at " + i, store.wordAt(0, i), i == place ? -1 : i + 1);
                Check.same("values at " + i, store.values(0, i), i == place ? 2 : 1);
            }
            Check.same("pattern of the first", store.patternOf(0), 0);
            Check.same("pattern of the other", store.patternOf(1), 0);
            Check.same("lines", store.linesOf(0), 2);
            Check.same("patterns", store.patterns(0), 1);
            Check.fails(store, "merged", NONE, () -> store.linesOf(1));
            Check.fails(store, "merged", NONE, () -> store.wordAt(1, 0));
            Check.fails(store, "merged", NONE, () -> store.values(1, 0));
        }
    }

    // The words 63, 64 and 99 stand at the edges of how words may be held.
    private static void theLowestPairIsMergedFirst() {
        LogWeave store = with(w(1, 1, 63), w(1, 2, 64), w(2, 2, 63), w(1, 2, 63));
        Check.same("0 and 3 are merged", store.patternOf(3), 0);
        Check.same("at the place 1", store.wordAt(0, 1), -1);
        Check.same("not at the place 2", store.wordAt(0, 2), 63);
        Check.same("1 stays", store.wordAt(1, 2), 64);
        Check.same("2 stays", store.wordAt(2, 0), 2);
        Check.same("patterns", store.patterns(0), 3);
        store.addLine(0, 0, 1, 2, 99, 1);
        store.addLine(0, 0, 1, 2, 0, 1);
        Check.same("goes to 1", store.patternOf(5), 1);
        Check.same("values", store.values(1, 2), 3);
        Check.same("a number was used for the merged one", store.patterns(0), 3);
        store.addLine(0, 0, 50, 51, 52, 1);
        Check.same("the next number", store.patternOf(6), 5);
    }

    private static void aMergeLeadsToAnother() {
        LogWeave store = with(w(1, 1, 1), w(2, 1, 1), w(1, 2, 1));
        Check.same("1 is merged with 0, 2 learned", store.wordAt(0, 0), -1);
        Check.same("2 is not alike at two places", store.wordAt(2, 0), 1);
        store.addLine(0, 0, 2, 2, 1, 1);
        Check.same("3 is merged with 2, then 2 with 0", store.patternOf(3), 0);
        Check.same("2 too", store.patternOf(2), 0);
        Check.same("field", store.wordAt(0, 0), -1);
        Check.same("field", store.wordAt(0, 1), -1);
        Check.same("word", store.wordAt(0, 2), 1);
        Check.same("lines", store.linesOf(0), 4);
        Check.same("values", store.values(0, 0), 2);
        Check.same("values", store.values(0, 1), 2);
        Check.same("values", store.values(0, 2), 1);
        Check.same("patterns", store.patterns(0), 1);
        Check.fails(store, "2 is merged", NONE, () -> store.linesOf(2));
    }

    // 0 changes first, by 4, and is then alike with 2, which stands behind it.
    private static void aNewPatternMergesWithALaterOne() {
        LogWeave store = with(w(1, 1, 1), w(2, 2, 1), w(3, 2, 1), w(1, 2, 7), w(9, 1, 1));
        Check.same("0 has a field and takes in 1", store.patternOf(1), 0);
        Check.same("and with it 2, merged with 1 before", store.patternOf(2), 0);
        Check.same("the new line", store.patternOf(4), 0);
        Check.same("another one stays", store.patternOf(3), 3);
        Check.same("fields", store.wordAt(0, 0), -1);
        Check.same("fields", store.wordAt(0, 1), -1);
        Check.same("values", store.values(0, 0), 4);
        Check.same("values", store.values(0, 1), 2);
        Check.same("lines", store.linesOf(0), 4);
        Check.same("patterns", store.patterns(0), 2);
    }

    // A field and a word are not the same: (1, 1, *) does not merge with (1, 2, 3).
    private static void aPatternWithAFieldTakesInOneWithAWord() {
        LogWeave store = with(w(1, 1, 1), w(1, 1, 2), w(1, 2, 3));
        Check.same("two differences", store.patternOf(2), 2);
        Check.same("patterns", store.patterns(0), 2);
        store.addLine(0, 0, 1, 2, 4, 1);
        Check.same("both have a field at the place 2", store.patternOf(3), 0);
        Check.same("patterns", store.patterns(0), 1);
        Check.same("values", store.values(0, 2), 4);
        store.addLine(0, 0, 7, 8, 9, 1);
        store.addLine(0, 0, 2, 50, 60, 1);
        Check.same("(1, *, *) stays", store.wordAt(0, 0), 1);
        Check.same("patterns", store.patterns(0), 3);
    }

    private static void patternsOfOtherSourcesAreLeft() {
        LogWeave store = new LogWeave();
        store.addLine(0, 0, 1, 1, 1, 1);
        store.addLine(1, 0, 1, 1, 1, 1);
        store.addLine(2, 0, 1, 1, 2, 1);
        Check.same("pattern", store.patternOf(0), 0);
        Check.same("pattern", store.patternOf(1), 1);
        Check.same("pattern", store.patternOf(2), 2);
        Check.same("patterns", store.patterns(0), 1);
        Check.same("patterns", store.patterns(1), 1);
        Check.same("patterns", store.patterns(2), 1);
        Check.same("patterns", store.patterns(3), 0);
        store.addLine(1, 0, 1, 1, 2, 1);
        Check.same("merged with that of its source", store.patternOf(3), 1);
        Check.same("the other source's has no field", store.wordAt(0, 2), 1);
    }

    private static void droppedLinesStay() {
        LogWeave store = with(w(1, 1, 1), w(1, 1, 2), w(1, 1, 2));
        store.setBudget(0, 1);
        Check.same("dropped", store.stateOf(0), 'd');
        Check.same("pattern", store.patternOf(0), 0);
        Check.same("lines", store.linesOf(0), 3);
        Check.same("values", store.values(0, 2), 2);
    }

    private static void wrongNumbersAreRefused() {
        LogWeave store = with(w(1, 1, 1), w(1, 1, 2), w(5, 5, 5));
        for (int line : new int[] {-1, 3, Integer.MIN_VALUE, Integer.MAX_VALUE}) {
            Check.fails(store, "stateOf", NONE, () -> store.stateOf(line));
            Check.fails(store, "patternOf", NONE, () -> store.patternOf(line));
        }
        for (int source : new int[] {-1, 4, Integer.MIN_VALUE, Integer.MAX_VALUE}) {
            Check.fails(store, "patterns", ARGUMENT, () -> store.patterns(source));
        }
        for (int pattern : new int[] {-1, 1, 3, Integer.MIN_VALUE, Integer.MAX_VALUE}) {
            Check.fails(store, "linesOf", NONE, () -> store.linesOf(pattern));
            for (int place : new int[] {-1, 0, 2, 3}) {
                Check.fails(store, "wordAt", NONE, () -> store.wordAt(pattern, place));
                Check.fails(store, "values", NONE, () -> store.values(pattern, place));
            }
        }
        for (int place : new int[] {-1, 3, Integer.MIN_VALUE, Integer.MAX_VALUE}) {
            Check.fails(store, "wordAt", ARGUMENT, () -> store.wordAt(0, place));
            Check.fails(store, "values", ARGUMENT, () -> store.values(2, place));
        }
    }
}
