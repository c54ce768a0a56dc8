import java.util.ArrayList;
import java.util.List;
import java.util.NoSuchElementException;

/** A test of its own for each sentence of the document about ticks, figures and exceptions: promises 28 to 33. */
public final class TickSentencesTest {
    private static final Class<IllegalArgumentException> ARGUMENT = IllegalArgumentException.class;
    private static final Class<IllegalStateException> STATE = IllegalStateException.class;
    private static final Class<NoSuchElementException> NONE = NoSuchElementException.class;
    private static final Class<ArithmeticException> ARITHMETIC = ArithmeticException.class;
    private static final int STEPS = 200;

    private TickSentencesTest() {
    }

    public static void main(String[] args) {
        all().run();
    }

    static Sentences all() {
        Sentences all = new Sentences();
        addTerms(all);
        addTicks(all);
        addFigures(all);
        return all;
    }

    private static void addTerms(Sentences all) {
        all.add("Terms", "Lines, alerts, budgets and ticks come by calls; fields, drops and firings are asked.",
                TickSentencesTest::askingChangesNothing);
        all.add("Ticks", "When a tick passes, its number increases by 1.", TickSentencesTest::theNumberIncreasesBy1);
        String held = "Then each alert that is held has one tick less to be held, and is quiet if this leaves none; and"
                + " then it is looked at, alert by alert by their numbers.";
        all.add("Ticks", held, TickSentencesTest::oneTickLessToBeHeld);
        all.add("Ticks", held, TickSentencesTest::itIsLookedAtThen);
        all.add("Ticks", held, TickSentencesTest::theHoldBeginsWhenItIsLookedAt);
        all.add("Ticks", "Then all sources are looked at.", TickSentencesTest::allSourcesAreLookedAt);
        all.add("Ticks", "Then the requests are answered for which it is time.", TickSentencesTest::requestsInTime);
        all.add("Exceptions", "A method that throws an exception changes nothing.",
                TickSentencesTest::refusedCallsChangeNothing);
        String first = "If several exceptions apply, the one that is documented first is thrown.";
        all.add("Exceptions", first, TickSentencesTest::outOfRangeBeforeFull);
        all.add("Exceptions", first, TickSentencesTest::noPatternBeforeNoPlace);
        all.add("Exceptions", first, TickSentencesTest::outOfRangeBeforeTheLastTick);
        all.add("Exceptions", first, TickSentencesTest::releasedBeforeFires);
    }

    private static void addTicks(Sentences all) {
        all.add("Promise 28", "`ticks`: the number of ticks, 1 to 50", TickSentencesTest::edgesOfTicks);
        all.add("Promise 28", "Returns the number of lines that are dropped.",
                TickSentencesTest::theNumberThatTicksDrop);
        all.add("Promise 28", "Throws `IllegalArgumentException` if the number is out of range",
                TickSentencesTest::ticksOutOfRange);
        all.add("Promise 28", "Throws `IllegalStateException` if the tick would be greater than 5000",
                TickSentencesTest::beyondTheTick5000);
        all.add("Promise 29", "Returns the tick.", TickSentencesTest::theTick);
    }

    private static void addFigures(Sentences all) {
        all.add("Promise 30", "Returns the bytes.", TickSentencesTest::theBytes);
        all.add("Promise 31", "Returns their number divided by that of all lines, both converted to float.",
                TickSentencesTest::theShare);
        all.add("Promise 31", "Throws `ArithmeticException` if no lines have come", TickSentencesTest::noLinesHaveCome);
        all.add("Promise 32", "Returns the sum of their ranks divided by their number, both converted to double.",
                TickSentencesTest::theMean);
        all.add("Promise 32", "Throws `ArithmeticException` if none is kept", TickSentencesTest::noneIsKept);
        all.add("Promise 33", "Returns whether this holds.", TickSentencesTest::allIsSound);
    }

    // Terms

    /** A step of a long run, which brings about each kind of state. */
    private static void step(LogWeave store, int step) {
        if (step % 7 == 3) {
            store.pass(1 + step % 3);
        } else if (step % 41 == 5) {
            store.addAlert(step % 2, step % 3, step % 4 - 1, step % 2, 1 + step % 3, 1 + step % 5, step % 4);
        } else if (step % 29 == 11) {
            store.setBudget(step % 2, 40 + step);
        } else if (step % 17 == 9) {
            store.request(step % 2, step % 5);
        } else if (step % 13 == 8) {
            Check.answerOf(() -> store.archive(store.lines() - 1));
        } else if (step % 31 == 30) {
            Check.answerOf(() -> store.release(store.firings() / 2));
        } else {
            store.addLine(step % 2, step % 5, step % 3, step % 2, step % 4, 1 + step % 50);
        }
    }

    private static void askingChangesNothing() {
        LogWeave asked = new LogWeave();
        LogWeave other = new LogWeave();
        for (int i = 0; i < STEPS; i++) {
            String before = Picture.of(asked);
            Check.same("asked once more", Picture.of(asked), before);
            step(asked, i);
            step(other, i);
        }
        Check.same("some firings", asked.firings() > 3, true);
        Check.same("some drops", asked.droppedShare() > 0.1f, true);
        Check.same("the one that was not asked", Picture.of(other), Picture.of(asked));
    }

    private static void theNumberIncreasesBy1() {
        LogWeave store = new LogWeave();
        for (int tick = 1; tick <= 60; tick++) {
            store.pass(1);
            Check.same("by 1", store.tick(), tick);
        }
        store.addAlert(0, 0, -1, 0, 1, 1, 1);
        Stores.line(store, 0, 0, 1);
        store.archive(0);
        store.request(0, 0);
        store.setBudget(0, 0);
        Check.same("by no other call", store.tick(), 60);
    }

    private static void oneTickLessToBeHeld() {
        LogWeave store = new LogWeave();
        for (int hold = 0; hold < 6; hold++) {
            store.addAlert(0, 0, -1, 0, 1, 1, hold);
        }
        Stores.line(store, 0, 0, 1);
        for (int tick = 1; tick <= 7; tick++) {
            store.pass(1);
            for (int hold = 0; hold < 6; hold++) {
                int left = Math.max(0, hold + 1 - tick);
                Check.same("left of " + hold, store.heldFor(hold), left);
                Check.same("with " + hold, store.alertState(hold), left == 0 ? 'q' : 'h');
            }
        }
        LogWeave fires = new LogWeave();
        fires.addAlert(0, 0, -1, 0, 1, 50, 20);
        Stores.line(fires, 0, 0, 1);
        fires.pass(49);
        Check.same("one that fires has none less", fires.heldFor(0), 0);
        fires.pass(1);
        Check.same("it is held for all of them", fires.heldFor(0), 20);
    }

    private static void itIsLookedAtThen() {
        LogWeave store = new LogWeave();
        for (int window = 1; window <= 3; window++) {
            store.addAlert(0, 0, -1, 0, 1, window, 0);
        }
        Stores.line(store, 0, 0, 1);
        String[] due = {"fff", "qff", "qqf", "qqq"};
        for (String states : due) {
            for (int i = 0; i < 3; i++) {
                Check.same("the alert " + i + " at " + store.tick(), store.alertState(i), states.charAt(i));
            }
            store.pass(1);
        }
        Check.same("a tick makes no firing", store.firings(), 3);
        Check.same("the tick at which it gets quiet is enough for a release", store.release(2), 0);
    }

    /** The tick at which an alert begins to be held takes none of its ticks, as it is held only after that. */
    private static void theHoldBeginsWhenItIsLookedAt() {
        LogWeave store = Stores.withAFiring(1);
        store.pass(1);
        Check.same("held", store.alertState(0), 'h');
        Check.same("for one tick", store.heldFor(0), 1);
        Stores.line(store, 0, 0, 1);
        Check.same("the same firing", store.firings(), 1);
        store.pass(2);
        Check.same("quiet", store.alertState(0), 'q');
        Stores.line(store, 0, 0, 1);
        Check.same("a new firing", store.firings(), 2);
        LogWeave none = Stores.withAFiring(0);
        none.pass(1);
        Stores.line(none, 0, 0, 1);
        Check.same("without a hold it is a new firing a tick later", none.firings(), 2);
    }

    private static void allSourcesAreLookedAt() {
        LogWeave store = new LogWeave();
        for (int source = 0; source < 4; source++) {
            store.addAlert(source, 0, -1, 0, 9, 2, 0);
            Stores.line(store, source, 0, 10);
            store.setBudget(source, 9);
        }
        Check.same("counted still", store.pass(1), 0);
        Check.same("at the tick at which they leave the windows", store.pass(1), 4);
        for (int source = 0; source < 4; source++) {
            Check.same("of the source " + source, store.dropped(source), 1);
        }
        Check.same("none is left", store.pass(50), 0);
    }

    private static void requestsInTime() {
        LogWeave store = Stores.withLines(4);
        store.request(0, 0);
        for (int line = 0; line < 3; line++) {
            store.archive(line);
        }
        store.request(0, 0);
        store.pass(1);
        store.request(1, 0);
        store.request(0, 4);
        int[] due = {2, 3, 3, 4};
        int[] lines = {3, 3, 0, 0};
        for (int tick = 1; tick <= 5; tick++) {
            Stores.passTo(store, tick);
            for (int i = 0; i < due.length; i++) {
                int request = i;
                Check.same("the request " + i + " at " + tick, Check.answerOf(() -> store.answer(request)),
                        tick < due[i] ? "IllegalStateException" : (Object) lines[i]);
            }
        }
        LogWeave once = Stores.withLines(1);
        once.archive(0);
        once.request(0, 0);
        once.pass(2);
        Check.same("at the last tick of a pass", once.answer(0), 1);
    }

    // Exceptions

    private static List<Check.Call> refused(LogWeave store) {
        List<Check.Call> calls = new ArrayList<>();
        for (int wrong : new int[] {Integer.MIN_VALUE, -2, 10000, Integer.MAX_VALUE}) {
            calls.add(() -> store.addLine(wrong, 0, 1, 1, 1, 1));
            calls.add(() -> store.addLine(0, wrong, 1, 1, 1, 1));
            calls.add(() -> store.addLine(0, 0, wrong, 1, 1, 1));
            calls.add(() -> store.addLine(0, 0, 1, 1, wrong, 1));
            calls.add(() -> store.addLine(0, 0, 1, 1, 1, wrong));
            calls.add(() -> store.setBudget(wrong, 0));
            calls.add(() -> store.setBudget(0, wrong));
            calls.add(() -> store.archive(wrong));
            calls.add(() -> store.request(wrong, 0));
            calls.add(() -> store.request(0, wrong));
            calls.add(() -> store.addAlert(wrong, 0, -1, 0, 1, 1, 0));
            calls.add(() -> store.addAlert(0, 0, wrong, 0, 1, 1, 0));
            calls.add(() -> store.addAlert(0, 0, -1, wrong, 1, 1, 0));
            calls.add(() -> store.addAlert(0, 0, -1, 0, 1, 1, wrong));
            calls.add(() -> store.release(wrong));
            calls.add(() -> store.pass(wrong));
            calls.add(() -> store.stateOf(wrong));
            calls.add(() -> store.wordAt(0, wrong));
            calls.add(() -> store.answer(wrong));
            calls.add(() -> store.counted(wrong));
            calls.add(() -> store.standsOn(0, wrong));
        }
        calls.add(() -> store.pass(0));
        return calls;
    }

    private static void refusedCallsChangeNothing() {
        LogWeave bothered = new LogWeave();
        LogWeave other = new LogWeave();
        for (int i = 0; i < STEPS; i++) {
            int number = 0;
            for (Check.Call call : refused(bothered)) {
                Check.same("the call " + number + " before the step " + i + " is refused",
                        Check.answerOf(call) instanceof String, true);
                number++;
            }
            step(bothered, i);
            step(other, i);
            Check.same("after the step " + i, Picture.of(bothered), Picture.of(other));
        }
        fullOnesChangeNothing();
    }

    private static void fullOnesChangeNothing() {
        LogWeave full = fullStore();
        LogWeave other = fullStore();
        int line = full.lines() - 1;
        Check.fails(full, "a line", STATE, () -> full.addLine(1, 0, 9, 9, 9, 9));
        Check.fails(full, "an alert", STATE, () -> full.addAlert(3, 0, -1, 0, 1, 50, 0));
        Check.fails(full, "a request", STATE, () -> full.request(3, 0));
        Check.fails(full, "a release", UnsupportedOperationException.class, () -> full.release(0));
        full.archive(line);
        other.archive(line);
        Check.fails(full, "an archived line", STATE, () -> full.archive(line));
        Check.fails(full, "an answer", STATE, () -> full.answer(19));
        Check.fails(full, "ticks", STATE, () -> full.pass(50));
        for (int tick = 1; tick <= 10; tick++) {
            Check.same("a tick later", full.pass(1), other.pass(1));
            Check.same("a tick later", Picture.of(full), Picture.of(other));
        }
        Check.fails(full, "a tick", STATE, () -> full.pass(1));
    }

    /** At the tick 4990, with 200 lines, 6 alerts of which one fires, and 20 requests. */
    private static LogWeave fullStore() {
        LogWeave store = Stores.atTick(4990);
        for (int i = 0; i < 200; i++) {
            store.addLine(3, i % 5, i % 7, i % 3, 1, 9);
        }
        store.addAlert(3, 4, -1, 0, 9, 3, 2);
        for (int i = 1; i < 6; i++) {
            store.addAlert(3, 3, 0, i, 9, i, i);
        }
        store.setBudget(3, 100);
        for (int i = 0; i < 20; i++) {
            store.request(i % 4, i % 5);
        }
        return store;
    }

    private static void outOfRangeBeforeFull() {
        LogWeave store = fullStore();
        Check.refuses(store, ARGUMENT, (s, source) -> s.addLine(source, 0, 0, 0, 0, 1), Check.beyond(0, 3));
        Check.refuses(store, ARGUMENT, (s, bytes) -> s.addLine(0, 0, 0, 0, 0, bytes), Check.beyond(1, 99));
        Check.refuses(store, ARGUMENT, (s, source) -> s.addAlert(source, 0, -1, 0, 1, 1, 0), Check.beyond(0, 3));
        Check.refuses(store, ARGUMENT, (s, hold) -> s.addAlert(0, 0, -1, 0, 1, 1, hold), Check.beyond(0, 20));
        Check.refuses(store, ARGUMENT, (s, source) -> s.request(source, 0), Check.beyond(0, 3));
        Check.refuses(store, ARGUMENT, (s, rank) -> s.request(0, rank), Check.beyond(0, 4));
    }

    private static void noPatternBeforeNoPlace() {
        LogWeave store = Stores.withWords(Stores.words(1, 1, 1), Stores.words(1, 1, 2));
        for (int place : Check.beyond(0, 2)) {
            Check.refuses(store, NONE, (s, pattern) -> s.wordAt(pattern, place), -1, 1, 2, Integer.MAX_VALUE);
            Check.refuses(store, NONE, (s, pattern) -> s.values(pattern, place), -1, 1, 2, Integer.MAX_VALUE);
            Check.refuses(store, ARGUMENT, (s, pattern) -> s.wordAt(pattern, place), 0);
            Check.refuses(store, ARGUMENT, (s, pattern) -> s.values(pattern, place), 0);
            Check.refuses(new LogWeave(), NONE, (s, pattern) -> s.wordAt(pattern, place), 0);
            Check.refuses(new LogWeave(), NONE, (s, pattern) -> s.values(pattern, place), 0);
        }
    }

    private static void outOfRangeBeforeTheLastTick() {
        for (int tick : new int[] {4951, 5000}) {
            LogWeave store = Stores.atTick(tick);
            Check.refuses(store, ARGUMENT, LogWeave::pass, Check.beyond(1, 50));
            Check.refuses(store, STATE, LogWeave::pass, 50);
        }
    }

    private static void releasedBeforeFires() {
        LogWeave store = Stores.withAFiring(1);
        store.pass(2);
        store.release(0);
        Stores.line(store, 0, 0, 1);
        Check.same("its alert fires", store.alertState(0), 'f');
        Check.refuses(store, STATE, LogWeave::release, 0);
        store.pass(1);
        Check.same("its alert is held", store.alertState(0), 'h');
        Check.refuses(store, STATE, LogWeave::release, 0);
    }

    // Promises 28 and 29

    private static void edgesOfTicks() {
        LogWeave store = new LogWeave();
        store.pass(1);
        Check.same("the least", store.tick(), 1);
        store.pass(50);
        Check.same("the greatest", store.tick(), 51);
    }

    private static void theNumberThatTicksDrop() {
        LogWeave store = new LogWeave();
        Check.same("no line", store.pass(50), 0);
        for (int i = 0; i < 6; i++) {
            store.addAlert(i % 4, 0, 0, i, 9, 10 * (i % 5) + 1, 0);
            store.addLine(i % 4, 0, i, 1, 1, 10);
        }
        for (int source = 0; source < 4; source++) {
            store.setBudget(source, 0);
        }
        Check.same("those of one tick", store.pass(1), 2);
        Check.same("none", store.pass(9), 0);
        Check.same("those of all ticks and all sources", store.pass(40), 4);
        LogWeave most = new LogWeave();
        for (int alert = 0; alert < 6; alert++) {
            most.addAlert(0, 0, 0, alert, 9, 50, 0);
        }
        for (int i = 0; i < 48; i++) {
            most.addLine(0, 4, i % 6, 1, 1, 99);
        }
        Check.same("all are counted", most.setBudget(0, 0), 0);
        most.pass(49);
        Check.same("all of them in a tick", most.pass(1), 48);
    }

    private static void ticksOutOfRange() {
        LogWeave store = Stores.withAFiring(3);
        Check.refuses(store, ARGUMENT, LogWeave::pass, Check.beyond(1, 50));
        Check.refuses(store, ARGUMENT, LogWeave::pass, -49, -50, 100, 5000, 5001);
        store.pass(1);
        Check.same("the hold is whole", store.heldFor(0), 3);
    }

    private static void beyondTheTick5000() {
        LogWeave exact = Stores.atTick(4950);
        Check.same("just to it", exact.pass(50), 0);
        Check.same("the tick", exact.tick(), 5000);
        Check.refuses(exact, STATE, LogWeave::pass, 1, 2, 50);
        LogWeave beyond = Stores.atTick(4951);
        Check.refuses(beyond, STATE, LogWeave::pass, 50);
        Check.same("just to it", beyond.pass(49), 0);
        Check.same("the tick", beyond.tick(), 5000);
        LogWeave last = Stores.atTick(4999);
        Check.refuses(last, STATE, LogWeave::pass, 2, 3, 50);
        Check.same("just to it", last.pass(1), 0);
        Check.refuses(last, STATE, LogWeave::pass, 1);
        Check.same("other calls go on", Stores.line(last, 0, 0, 1), 0);
    }

    private static void theTick() {
        LogWeave store = new LogWeave();
        Check.same("the least", store.tick(), 0);
        for (int i = 1; i <= 100; i++) {
            store.pass(50);
            Check.same("after " + i, store.tick(), 50 * i);
        }
        Check.fails(store, "beyond the greatest", STATE, () -> store.pass(1));
        Check.same("the greatest", store.tick(), 5000);
    }

    // Promises 30 to 33

    private static void theBytes() {
        LogWeave store = new LogWeave();
        Check.same("of no line", store.bytes(), 0L);
        Stores.line(store, 0, 0, 1);
        Check.same("the least", store.bytes(), 1L);
        store.setBudget(0, 0);
        Check.same("of a dropped line", store.bytes(), 1L);
        Stores.line(store, 1, 0, 99);
        store.archive(1);
        Check.same("of an archived line", store.bytes(), 100L);
        LogWeave most = new LogWeave();
        for (int i = 0; i < 200; i++) {
            Stores.line(most, i % 4, 0, 99);
        }
        Check.same("the most", most.bytes(), 19800L);
    }

    private static void theShare() {
        for (int all : new int[] {1, 3, 7, 199, 200}) {
            LogWeave store = Stores.withLines(all);
            Check.same("none of " + all, store.droppedShare(), 0.0f);
            store.archive(0);
            Check.same("an archived one of " + all, store.droppedShare(), 0.0f);
            for (int dropped = 1; dropped < all; dropped++) {
                store.setBudget(0, 10 * (all - 1 - dropped));
                Check.same(dropped + " of " + all, store.droppedShare(), (float) dropped / (float) all);
            }
        }
        LogWeave whole = Stores.withLines(200);
        whole.setBudget(0, 0);
        Check.same("all", whole.droppedShare(), 1.0f);
    }

    private static void noLinesHaveCome() {
        LogWeave store = new LogWeave();
        Check.fails(store, "no line", ARITHMETIC, store::droppedShare);
        store.pass(50);
        store.addAlert(0, 0, -1, 0, 1, 1, 0);
        Check.answerOf(() -> store.addLine(0, 0, 0, 0, 0, 0));
        Check.fails(store, "no line still", ARITHMETIC, store::droppedShare);
        Stores.line(store, 0, 0, 1);
        Check.same("one line", store.droppedShare(), 0.0f);
        store.archive(0);
        Check.same("one that is archived", store.droppedShare(), 0.0f);
    }

    private static void theMean() {
        LogWeave store = new LogWeave();
        int sum = 0;
        for (int i = 0; i < 200; i++) {
            int rank = i % 7 % 5;
            Stores.line(store, i % 4, rank, 1);
            sum += rank;
            Check.same("of " + (i + 1), store.meanRank(), (double) sum / (double) (i + 1));
        }
        int left = sum;
        for (int i = 0; i < 199; i++) {
            store.archive(i);
            left -= i % 7 % 5;
            Check.same("without the archived ones", store.meanRank(), (double) left / (double) (199 - i));
        }
        LogWeave dropped = new LogWeave();
        Stores.line(dropped, 0, 1, 10);
        Stores.line(dropped, 0, 4, 10);
        dropped.setBudget(0, 10);
        Check.same("without the dropped one", dropped.meanRank(), 4.0);
        LogWeave least = new LogWeave();
        Stores.line(least, 0, 0, 1);
        Check.same("the least", least.meanRank(), 0.0);
    }

    private static void noneIsKept() {
        LogWeave store = new LogWeave();
        Check.fails(store, "no line", ARITHMETIC, store::meanRank);
        Stores.line(store, 0, 0, 1);
        Check.same("one that is kept", store.meanRank(), 0.0);
        store.archive(0);
        Check.fails(store, "one that is archived", ARITHMETIC, store::meanRank);
        Stores.line(store, 1, 4, 1);
        Check.same("another one that is kept", store.meanRank(), 4.0);
        store.setBudget(1, 0);
        Check.fails(store, "one archived, one dropped", ARITHMETIC, store::meanRank);
        LogWeave dropped = Stores.withLines(200);
        dropped.setBudget(0, 0);
        Check.fails(dropped, "all dropped", ARITHMETIC, dropped::meanRank);
    }

    private static void allIsSound() {
        Check.same("nothing", new LogWeave().isSound(), true);
        LogWeave store = new LogWeave();
        for (int i = 0; i < STEPS; i++) {
            step(store, i);
            Check.same("after the step " + i, store.isSound(), true);
        }
        Check.same("200 patterns", Stores.withMostPatterns().isSound(), true);
        LogWeave full = fullStore();
        Check.same("full", full.isSound(), true);
        full.pass(10);
        Check.same("at the tick 5000", full.isSound(), true);
    }
}
