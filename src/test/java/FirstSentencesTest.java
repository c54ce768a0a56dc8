import java.util.NoSuchElementException;
import java.util.StringJoiner;

/** A test of its own for what the document says first: "What it is", and the first sentence of each promise. */
public final class FirstSentencesTest {
    private static final Class<NoSuchElementException> NONE = NoSuchElementException.class;

    private FirstSentencesTest() {
    }

    public static void main(String[] args) {
        all().run();
    }

    static Sentences all() {
        Sentences all = new Sentences();
        all.add("What it is", "A store for the lines of logs: lines are read by patterns that are learned and merged,"
                + " each source has a budget of bytes, beyond which lines are dropped by their ranks, alerts count"
                + " lines in windows and fire, are held and get quiet, what alerts need is guarded, and archives"
                + " answer slowly.", FirstSentencesTest::whatItIs);
        addLines(all);
        addBudgets(all);
        addAlerts(all);
        addTicks(all);
        return all;
    }

    private static void addLines(Sentences all) {
        all.add("Promise 2", "Lets a line come.", FirstSentencesTest::aLineComes);
        all.add("Promise 3", "Returns the number of lines that have come.", FirstSentencesTest::linesThatHaveCome);
        all.add("Promise 4", "Returns the state of a line.", FirstSentencesTest::theStateOfALine);
        all.add("Promise 5", "Returns the pattern to which a line belongs.", FirstSentencesTest::thePatternOfALine);
        all.add("Promise 6", "Returns the number of patterns of a source that were not merged into others.",
                FirstSentencesTest::patternsThatWereNotMerged);
        all.add("Promise 7", "Returns the word of a pattern at a place.", FirstSentencesTest::theWordAtAPlace);
        all.add("Promise 8", "Returns how many lines belong to a pattern, dropped ones included.",
                FirstSentencesTest::linesThatBelongToAPattern);
        all.add("Promise 9", "Returns how many different words the lines of a pattern have at a place.",
                FirstSentencesTest::differentWords);
    }

    private static void addBudgets(Sentences all) {
        all.add("Promise 11", "Returns the bytes of the lines of a source that are kept.",
                FirstSentencesTest::bytesThatAreKept);
        all.add("Promise 12", "Returns the number of lines of a source that were dropped.",
                FirstSentencesTest::linesThatWereDropped);
        all.add("Promise 13", "Archives a line.", FirstSentencesTest::aLineIsArchived);
        all.add("Promise 14", "Makes a request to the archive.", FirstSentencesTest::aRequestIsMade);
        all.add("Promise 15", "Returns the answer to a request.", FirstSentencesTest::theAnswerToARequest);
    }

    private static void addAlerts(Sentences all) {
        all.add("Promise 17", "Returns the state of an alert.", FirstSentencesTest::theStateOfAnAlert);
        all.add("Promise 18", "Returns how many lines an alert counts, as it is kept.",
                () -> linesThatAnAlertCounts(LogWeave::counted));
        all.add("Promise 19", "Returns the same number, found anew from all lines.",
                () -> linesThatAnAlertCounts(LogWeave::countedAnew));
        all.add("Promise 20", "Returns for how many ticks an alert is still held.",
                FirstSentencesTest::ticksThatAreLeft);
        all.add("Promise 22", "Returns the alert of a firing.", FirstSentencesTest::theAlertOfAFiring);
        all.add("Promise 23", "Returns the tick at which a firing began.", FirstSentencesTest::theTickOfAFiring);
        all.add("Promise 24", "Returns on how many lines a firing stands.", FirstSentencesTest::onHowManyLines);
        all.add("Promise 25", "Returns whether a firing that was not released stands on a line.",
                FirstSentencesTest::onWhichLines);
        all.add("Promise 27", "Returns whether a line is guarded.", FirstSentencesTest::whetherALineIsGuarded);
    }

    private static void addTicks(Sentences all) {
        all.add("Promise 28", "Lets ticks pass.", FirstSentencesTest::ticksPass);
        all.add("Promise 29", "Returns the number of the tick.", FirstSentencesTest::theNumberOfTheTick);
        all.add("Promise 30", "Returns the bytes of all lines that have come.", FirstSentencesTest::bytesOfAllLines);
        all.add("Promise 31", "Returns the share of the lines that were dropped.", FirstSentencesTest::theShare);
        all.add("Promise 32", "Returns the mean rank of the lines that are kept.", FirstSentencesTest::theMeanRank);
        all.add("Promise 33", "Returns whether all is sound: what alerts count is the same anew; no line on which a"
                + " firing stands that was not released is dropped; and each line belongs to a pattern that was not"
                + " merged and that it fits.", FirstSentencesTest::whetherAllIsSound);
    }

    /** The answers for the numbers from 0 up to below the end, one behind the other. */
    private static String each(LogWeave store, int end, Check.Asked asked) {
        StringJoiner answers = new StringJoiner(" ");
        for (int i = 0; i < end; i++) {
            int number = i;
            answers.add(String.valueOf(Check.answerOf(() -> asked.of(store, number))));
        }
        return answers.toString();
    }

    /** At the tick 0 the lines 0 to 3 came: 2 is dropped, 3 archived; two alerts fire, a request is open. */
    private static LogWeave atNoon() {
        LogWeave store = new LogWeave();
        store.addAlert(0, 2, -1, 0, 2, 3, 2);
        store.addAlert(0, 0, 1, 8, 1, 1, 0);
        store.addLine(0, 2, 7, 8, 9, 40);
        store.addLine(0, 3, 7, 8, 5, 30);
        store.addLine(0, 0, 1, 2, 3, 20);
        store.addLine(1, 4, 7, 8, 9, 10);
        store.setBudget(0, 75);
        store.archive(3);
        store.request(1, 3);
        return store;
    }

    /** Three ticks later: the line 4 came at the tick 1, the alert 0 is held, the alert 1 quiet; three firings. */
    private static LogWeave atNight() {
        LogWeave store = atNoon();
        store.pass(1);
        store.addLine(0, 1, 7, 8, 1, 5);
        store.pass(2);
        return store;
    }

    // What it is

    private static void whatItIs() {
        LogWeave store = atNoon();
        Check.same("patterns that are learned and merged", each(store, 4, LogWeave::patternOf), "0 0 2 3");
        Check.same("a field", store.wordAt(0, 2), -1);
        Check.same("the least rank is dropped", Stores.states(store), "kkda");
        Check.same("alerts count", each(store, 2, LogWeave::counted), "2 2");
        Check.same("alerts fire", each(store, 2, LogWeave::alertState), "f f");
        Check.same("what they need is guarded", store.setBudget(0, 0), 0);
        Check.same("the archive is slow", Check.answerOf(() -> store.answer(0)), "IllegalStateException");
        store.pass(3);
        Check.same("the archive answers", store.answer(0), 1);
        Check.same("one is held, one is quiet", each(store, 2, LogWeave::alertState), "h q");
        store.pass(2);
        Check.same("both are quiet", each(store, 2, LogWeave::alertState), "q q");
        Check.same("a firing guards both", store.release(0), 0);
        Check.same("nothing guards them", store.release(1), 2);
        Check.same("all are dropped or archived", Stores.states(store), "ddda");
    }

    // Lines and patterns

    private static void aLineComes() {
        LogWeave store = new LogWeave();
        store.pass(7);
        store.addLine(2, 3, 4, 5, 6, 70);
        Check.same("it has come", store.lines(), 1);
        Check.same("it is kept", store.stateOf(0), 'k');
        Check.same("its source", each(store, 4, LogWeave::kept), "0 0 70 0");
        Check.same("its rank", store.meanRank(), 3.0);
        Check.same("its words", each(store, 3, (s, place) -> s.wordAt(s.patternOf(0), place)), "4 5 6");
        Check.same("its bytes", store.bytes(), 70L);
        store.pass(1);
        store.addAlert(2, 3, 0, 4, 9, 2, 0);
        Check.same("it came at the tick 7", store.counted(0), 1);
        store.addAlert(2, 3, 0, 4, 9, 1, 0);
        Check.same("and not at the tick 8", store.counted(1), 0);
    }

    private static void linesThatHaveCome() {
        Check.same("none", new LogWeave().lines(), 0);
        Check.same("kept, dropped and archived ones", atNoon().lines(), 4);
        Check.same("and one more", atNight().lines(), 5);
    }

    private static void theStateOfALine() {
        LogWeave store = atNight();
        Check.same("of each line", each(store, 5, LogWeave::stateOf), "k k d a k");
        store.archive(4);
        Check.same("of each line", each(store, 5, LogWeave::stateOf), "k k d a a");
    }

    private static void thePatternOfALine() {
        LogWeave store = atNight();
        Check.same("of each line", each(store, 5, LogWeave::patternOf), "0 0 2 3 0");
        store.addLine(0, 0, 1, 2, 4, 1);
        Check.same("of one that is merged", store.patternOf(5), 2);
        store.addLine(1, 0, 1, 2, 4, 1);
        Check.same("of one that learns it", store.patternOf(6), 5);
    }

    private static void patternsThatWereNotMerged() {
        LogWeave store = atNight();
        Check.same("of each source", each(store, 4, LogWeave::patterns), "2 1 0 0");
        store.addLine(0, 0, 9, 9, 9, 1);
        store.addLine(1, 0, 7, 8, 1, 1);
        Check.same("one that is learned, one that is merged", each(store, 4, LogWeave::patterns), "3 1 0 0");
    }

    private static String words(LogWeave store, int pattern) {
        return each(store, 3, (s, place) -> s.wordAt(pattern, place));
    }

    private static void theWordAtAPlace() {
        LogWeave store = atNight();
        Check.same("of the pattern 0", words(store, 0), "7 8 -1");
        Check.same("of the pattern 2", words(store, 2), "1 2 3");
        Check.same("of the pattern 3", words(store, 3), "7 8 9");
        store.addLine(0, 4, 1, 5, 3, 1);
        Check.same("of the pattern 2, with a field", words(store, 2), "1 -1 3");
    }

    private static void linesThatBelongToAPattern() {
        LogWeave store = atNight();
        String merged = "NoSuchElementException";
        Check.same("of each pattern", each(store, 4, LogWeave::linesOf), "3 " + merged + " 1 1");
        Check.same("the line of the pattern 2 is dropped", store.stateOf(2), 'd');
        store.addLine(0, 0, 1, 2, 3, 99);
        Check.same("and so is one more", store.stateOf(5), 'd');
        Check.same("both belong to it", store.linesOf(2), 2);
    }

    private static void differentWords() {
        LogWeave store = atNight();
        Check.same("three lines", each(store, 3, (s, place) -> s.values(0, place)), "1 1 3");
        store.addLine(0, 0, 7, 8, 5, 99);
        Check.same("a word that is there already", store.values(0, 2), 3);
        store.addLine(0, 0, 7, 8, 6, 99);
        Check.same("another one, of a line that is dropped", store.values(0, 2), 4);
        store.addLine(1, 0, 7, 8, 6, 1);
        Check.same("not that of another source's line", store.values(0, 2), 4);
        Check.same("but of its own pattern", store.values(3, 2), 2);
    }

    // Budgets and archives

    private static void bytesThatAreKept() {
        Check.same("neither dropped nor archived", each(atNoon(), 4, LogWeave::kept), "70 0 0 0");
        LogWeave store = atNight();
        Check.same("and one more", each(store, 4, LogWeave::kept), "75 0 0 0");
        Stores.line(store, 3, 0, 99);
        Check.same("of each source", each(store, 4, LogWeave::kept), "75 0 0 99");
    }

    private static void linesThatWereDropped() {
        LogWeave store = atNight();
        Check.same("of each source", each(store, 4, LogWeave::dropped), "1 0 0 0");
        Stores.line(store, 0, 0, 1);
        Check.same("one that is dropped as it comes", each(store, 4, LogWeave::dropped), "2 0 0 0");
        Stores.line(store, 1, 0, 1);
        store.setBudget(1, 0);
        Check.same("of each source", each(store, 4, LogWeave::dropped), "2 1 0 0");
    }

    private static void aLineIsArchived() {
        LogWeave store = atNight();
        Check.same("what is kept without it", store.archive(0), 35);
        Check.same("that line alone", Stores.states(store), "akdak");
        Check.same("it stays guarded", store.isGuarded(0), true);
        Check.same("and in its pattern", store.patternOf(0), 0);
        store.request(0, 2);
        store.pass(2);
        Check.same("a request finds it", store.answer(1), 1);
    }

    private static void aRequestIsMade() {
        LogWeave store = atNight();
        Check.same("behind that of the noon", store.request(1, 4), 1);
        Check.same("open yet", Check.answerOf(() -> store.answer(1)), "IllegalStateException");
        store.request(1, 0);
        store.request(0, 0);
        store.pass(2);
        Check.same("answered", each(store, 4, LogWeave::answer), "1 1 1 0");
        Check.same("it changes no line", Stores.states(store), "kkdak");
    }

    private static void theAnswerToARequest() {
        LogWeave store = atNoon();
        store.pass(1);
        Check.same("open yet", Check.answerOf(() -> store.answer(0)), "IllegalStateException");
        store.pass(1);
        Check.same("the archived line of the source 1", store.answer(0), 1);
        store.addLine(1, 4, 7, 8, 9, 10);
        store.archive(4);
        store.pass(50);
        Check.same("the same for ever", store.answer(0), 1);
    }

    // Alerts and firings

    private static void theStateOfAnAlert() {
        LogWeave store = atNoon();
        Check.same("both fire", each(store, 2, LogWeave::alertState), "f f");
        store.pass(1);
        Check.same("one has no line", each(store, 2, LogWeave::alertState), "f q");
        Check.same("one is held", each(atNight(), 2, LogWeave::alertState), "h q");
    }

    private static void linesThatAnAlertCounts(Check.Asked asked) {
        LogWeave store = atNoon();
        Check.same("at noon", each(store, 2, asked), "2 2");
        store.pass(1);
        Check.same("a tick later", each(store, 2, asked), "2 0");
        store.addLine(0, 2, 7, 8, 1, 5);
        Check.same("one more", each(store, 2, asked), "3 1");
        store.pass(1);
        Check.same("two ticks later", each(store, 2, asked), "3 0");
        store.pass(1);
        Check.same("three ticks later", each(store, 2, asked), "1 0");
    }

    private static void ticksThatAreLeft() {
        LogWeave store = atNight();
        Check.same("one is held", each(store, 2, LogWeave::heldFor), "2 0");
        store.pass(1);
        Check.same("a tick later", each(store, 2, LogWeave::heldFor), "1 0");
        store.pass(1);
        Check.same("two ticks later", each(store, 2, LogWeave::heldFor), "0 0");
    }

    private static void theAlertOfAFiring() {
        LogWeave store = atNight();
        Check.same("the first one fired on the first line", each(store, 3, LogWeave::alertOf), "1 0 1");
        store.release(2);
        Check.same("of a released one too", each(store, 3, LogWeave::alertOf), "1 0 1");
    }

    private static void theTickOfAFiring() {
        LogWeave store = atNight();
        Check.same("of each", each(store, 3, LogWeave::firedAt), "0 0 1");
        store.addLine(0, 4, 1, 1, 1, 1);
        store.addLine(0, 4, 1, 1, 1, 1);
        Check.same("the held one fires again", store.alertState(0), 'f');
        Check.same("no new one began", each(store, store.firings(), LogWeave::firedAt), "0 0 1");
    }

    private static void onHowManyLines() {
        LogWeave store = atNight();
        Check.same("of each", each(store, 3, LogWeave::ground), "2 2 1");
        store.addLine(0, 4, 1, 1, 1, 1);
        store.addLine(0, 4, 1, 1, 1, 1);
        Check.same("the held one fires again, on two more", each(store, 3, LogWeave::ground), "2 4 1");
        store.release(2);
        Check.same("one is released", each(store, 3, LogWeave::ground), "2 4 0");
    }

    private static void onWhichLines() {
        LogWeave store = atNight();
        Check.same("the firing 0", each(store, 5, (s, line) -> s.standsOn(0, line)), "true true false false false");
        Check.same("the firing 1", each(store, 5, (s, line) -> s.standsOn(1, line)), "true true false false false");
        Check.same("the firing 2", each(store, 5, (s, line) -> s.standsOn(2, line)), "false false false false true");
        store.release(0);
        Check.same("a released one", each(store, 5, (s, line) -> s.standsOn(0, line)),
                "false false false false false");
        Check.same("another one", each(store, 5, (s, line) -> s.standsOn(1, line)), "true true false false false");
    }

    private static void whetherALineIsGuarded() {
        LogWeave store = atNight();
        Check.same("of each", each(store, 5, LogWeave::isGuarded), "true true false false true");
        store.release(2);
        Check.same("the last one no longer", each(store, 5, LogWeave::isGuarded), "true true false false false");
        store.addAlert(0, 1, -1, 0, 9, 3, 0);
        Check.same("but an alert counts it", each(store, 5, LogWeave::isGuarded), "true true false false true");
    }

    // Ticks and figures

    private static void ticksPass() {
        LogWeave one = atNoon();
        one.pass(1);
        Check.same("one tick", one.tick(), 1);
        LogWeave many = atNoon();
        many.pass(5);
        for (int i = 0; i < 4; i++) {
            one.pass(1);
        }
        Check.same("five at once as five one by one", Picture.of(many), Picture.of(one));
        Check.same("windows and holds are over", each(many, 2, LogWeave::alertState), "q q");
    }

    private static void theNumberOfTheTick() {
        Check.same("a new one", new LogWeave().tick(), 0);
        Check.same("none has passed", atNoon().tick(), 0);
        Check.same("three have passed", atNight().tick(), 3);
    }

    private static void bytesOfAllLines() {
        Check.same("dropped and archived ones too", atNoon().bytes(), 100L);
        LogWeave store = atNight();
        Check.same("and one more", store.bytes(), 105L);
        store.setBudget(0, 0);
        store.archive(0);
        Check.same("those that have come", store.bytes(), 105L);
    }

    private static void theShare() {
        Check.same("one of four", atNoon().droppedShare(), 0.25f);
        LogWeave store = atNight();
        Check.same("one of five", store.droppedShare(), 1.0f / 5.0f);
        Stores.line(store, 0, 0, 1);
        Check.same("two of six", store.droppedShare(), 2.0f / 6.0f);
    }

    private static void theMeanRank() {
        Check.same("of 2 and 3", atNoon().meanRank(), 2.5);
        LogWeave store = atNight();
        Check.same("of 2, 3 and 1", store.meanRank(), 2.0);
        store.archive(0);
        store.archive(1);
        Check.same("of 1", store.meanRank(), 1.0);
        store.archive(4);
        Check.fails(store, "of none", ArithmeticException.class, store::meanRank);
    }

    private static void whetherAllIsSound() {
        LogWeave store = atNight();
        Check.same("it is", store.isSound(), true);
        Check.same("what alerts count", each(store, 2, LogWeave::counted), each(store, 2, LogWeave::countedAnew));
        Check.same("firings on the dropped line", each(store, 3, (s, firing) -> s.standsOn(firing, 2)),
                "false false false");
        store.pass(2);
        for (int firing = 0; firing < 3; firing++) {
            store.release(firing);
            store.setBudget(0, 0);
            Check.same("after the release of " + firing, store.isSound(), true);
        }
        Check.same("all are dropped or archived", Stores.states(store), "dddad");
        Check.fails(store, "no line belongs to a merged pattern", NONE, () -> store.linesOf(1));
    }
}
