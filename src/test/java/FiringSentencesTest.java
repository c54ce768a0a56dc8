import java.util.NoSuchElementException;

/** A test of its own for each sentence of the document about firings and guarded lines: promises 21 to 27. */
public final class FiringSentencesTest {
    private static final Class<IllegalStateException> STATE = IllegalStateException.class;
    private static final Class<NoSuchElementException> NONE = NoSuchElementException.class;
    private static final Class<UnsupportedOperationException> UNSUPPORTED = UnsupportedOperationException.class;
    private static final int MIN = Integer.MIN_VALUE;
    private static final int MAX = Integer.MAX_VALUE;

    private FiringSentencesTest() {
    }

    public static void main(String[] args) {
        all().run();
    }

    static Sentences all() {
        Sentences all = new Sentences();
        addTerms(all);
        addAsking(all);
        addRelease(all);
        return all;
    }

    private static void addTerms(Sentences all) {
        String guarded = "A line is guarded if an alert counts it, or if a firing stands on it that was not released.";
        all.add("Terms", "No line is dropped on which a firing stands.",
                FiringSentencesTest::noLineOnWhichAFiringStands);
        all.add("Guarded lines", guarded, FiringSentencesTest::linesThatAlertsCount);
        all.add("Guarded lines", guarded, FiringSentencesTest::linesOnWhichFiringsStand);
        all.add("Guarded lines", guarded, FiringSentencesTest::theLastGuardThatGoes);
    }

    private static void addAsking(Sentences all) {
        String firing = "`firing`: the number of the firing";
        String none = "Throws `NoSuchElementException` if there is no such firing";
        all.add("Promise 21", "Returns the number of firings.", FiringSentencesTest::theNumberOfFirings);
        all.add("Promise 22", firing, () -> firstAndLastFiring(LogWeave::alertOf, 0, 5));
        all.add("Promise 22", "Returns the number of the alert.", FiringSentencesTest::theAlertOfAFiring);
        all.add("Promise 22", none, () -> noSuchFiring(LogWeave::alertOf));
        all.add("Promise 23", firing, () -> firstAndLastFiring(LogWeave::firedAt, 0, 199));
        all.add("Promise 23", "Returns the tick.", FiringSentencesTest::theTickOfAFiring);
        all.add("Promise 23", none, () -> noSuchFiring(LogWeave::firedAt));
        all.add("Promise 24", firing, () -> firstAndLastFiring(LogWeave::ground, 1, 1));
        all.add("Promise 24", "Returns the number of lines, 0 if it was released.", FiringSentencesTest::theGround);
        all.add("Promise 24", none, () -> noSuchFiring(LogWeave::ground));
        all.add("Promise 25", firing,
                () -> firstAndLastFiring((store, number) -> store.standsOn(number, number / 6), true, true));
        all.add("Promise 25", "`line`: the number of the line", FiringSentencesTest::firstAndLastLineOfAFiring);
        all.add("Promise 25", "Returns whether it does.", FiringSentencesTest::whetherItStandsOnIt);
        String either = "Throws `NoSuchElementException` if there is no such firing or no such line";
        all.add("Promise 25", either, () -> noSuchFiring((store, number) -> store.standsOn(number, 0)));
        all.add("Promise 25", either, FiringSentencesTest::noSuchLineOfAFiring);
        all.add("Promise 25", either, () -> noSuchFiring((store, number) -> store.standsOn(number, number)));
    }

    private static void addRelease(Sentences all) {
        all.add("Promise 26", "Releases a firing; all sources are looked at then.",
                FiringSentencesTest::sourcesAreLookedAt);
        all.add("Promise 26", "`firing`: the number of the firing", FiringSentencesTest::firstAndLastRelease);
        all.add("Promise 26", "Returns the number of lines that are dropped.",
                FiringSentencesTest::theNumberThatAReleaseDrops);
        all.add("Promise 26", "Throws `NoSuchElementException` if there is no such firing",
                () -> noSuchFiring(LogWeave::release));
        all.add("Promise 26", "Throws `IllegalStateException` if it was released", FiringSentencesTest::wasReleased);
        all.add("Promise 26", "Throws `UnsupportedOperationException` if its alert fires or is held by it",
                FiringSentencesTest::itsAlertFires);
        all.add("Promise 26", "Throws `UnsupportedOperationException` if its alert fires or is held by it",
                FiringSentencesTest::itsAlertIsHeldByIt);
        all.add("Promise 26", "Throws `UnsupportedOperationException` if its alert fires or is held by it",
                FiringSentencesTest::itsAlertFiresByAnother);
        all.add("Promise 27", "`line`: the number of the line", FiringSentencesTest::firstAndLastGuardedLine);
        all.add("Promise 27", "Returns whether it is, false if it is dropped.",
                FiringSentencesTest::whetherItIsGuarded);
        all.add("Promise 27", "Throws `NoSuchElementException` if there is no such line",
                FiringSentencesTest::noSuchGuardedLine);
    }

    private static void lines(LogWeave store, int count) {
        for (int i = 0; i < count; i++) {
            Stores.line(store, 0, 2, 10);
        }
    }

    /** Six alerts fire on each of 200 lines, one at a tick: the firing n is of the alert n % 6 on the line n / 6. */
    private static LogWeave withMostFirings() {
        LogWeave store = new LogWeave();
        for (int i = 0; i < 6; i++) {
            store.addAlert(0, 0, -1, 0, 1, 1, 0);
        }
        for (int i = 0; i < 200; i++) {
            lines(store, 1);
            store.pass(1);
        }
        return store;
    }

    /** An alert counts two of 200 lines, the first and the last one. */
    private static LogWeave withTheFirstAndTheLastCounted(int goal) {
        LogWeave store = new LogWeave();
        store.addAlert(0, 4, -1, 0, goal, 50, 0);
        for (int i = 0; i < 200; i++) {
            Stores.line(store, 0, i == 0 || i == 199 ? 4 : 3, 1);
        }
        return store;
    }

    // Terms

    private static void noLineOnWhichAFiringStands() {
        LogWeave store = Stores.withAFiring(0);
        store.pass(1);
        Check.same("no alert counts it", store.counted(0), 0);
        Check.same("by its budget", store.setBudget(0, 0), 0);
        Stores.line(store, 1, 0, 99);
        store.addLine(0, 4, 1, 1, 1, 99);
        Check.same("by a coming line", store.stateOf(0), 'k');
        Check.same("by a tick", store.pass(50), 0);
        Check.same("not by the release of another firing", store.release(1), 1);
        Check.same("states", Stores.states(store), "kkd");
        Check.same("by its own release alone", store.release(0), 1);
        Check.same("states", Stores.states(store), "dkd");
    }

    private static void linesThatAlertsCount() {
        LogWeave store = new LogWeave();
        Stores.line(store, 0, 0, 10);
        Check.same("no alert", store.isGuarded(0), false);
        store.addAlert(0, 1, -1, 0, 9, 2, 0);
        Check.same("an alert that does not count it", store.isGuarded(0), false);
        store.addAlert(0, 0, -1, 0, 9, 2, 0);
        Check.same("a quiet alert that counts it", store.isGuarded(0), true);
        store.archive(0);
        Check.same("archived", store.isGuarded(0), true);
        store.pass(1);
        Check.same("at the last tick of the window", store.isGuarded(0), true);
        store.pass(1);
        Check.same("it has just left the window", store.isGuarded(0), false);
    }

    private static void linesOnWhichFiringsStand() {
        LogWeave store = Stores.withAFiring(1);
        Check.same("counted and stood on", store.isGuarded(0), true);
        store.pass(1);
        Check.same("stood on, held", store.isGuarded(0), true);
        store.pass(1);
        Check.same("stood on, quiet", store.isGuarded(0), true);
        Stores.line(store, 0, 0, 10);
        Check.same("stood on by the old one", store.isGuarded(0), true);
        store.release(0);
        Check.same("released", store.isGuarded(0), false);
        Check.same("the other line", store.isGuarded(1), true);
    }

    private static void theLastGuardThatGoes() {
        LogWeave store = new LogWeave();
        store.addAlert(0, 0, -1, 0, 1, 1, 0);
        store.addAlert(0, 0, -1, 0, 1, 1, 0);
        store.addAlert(0, 0, -1, 0, 9, 3, 0);
        lines(store, 1);
        store.setBudget(0, 0);
        store.pass(1);
        Check.same("one of two firings", store.release(0), 0);
        Check.same("guarded by two", store.isGuarded(0), true);
        Check.same("both firings", store.release(1), 0);
        Check.same("guarded by an alert", store.isGuarded(0), true);
        Check.same("one tick", store.pass(1), 0);
        Check.same("the alert counts it no longer", store.pass(1), 1);
        Check.same("dropped", store.isGuarded(0), false);
    }

    // Promises 21 to 25

    private static void theNumberOfFirings() {
        LogWeave store = new LogWeave();
        Check.same("none", store.firings(), 0);
        store.addAlert(0, 0, -1, 0, 2, 1, 0);
        lines(store, 1);
        Check.same("none", store.firings(), 0);
        lines(store, 1);
        Check.same("one", store.firings(), 1);
        lines(store, 1);
        Check.same("one still", store.firings(), 1);
        store.pass(1);
        store.release(0);
        Check.same("the released one too", store.firings(), 1);
        Check.same("the most", withMostFirings().firings(), 1200);
    }

    private static void firstAndLastFiring(Check.Asked asked, Object first, Object last) {
        LogWeave store = withMostFirings();
        Check.same("of the firing 0", asked.of(store, 0), first);
        Check.same("of the firing 1199", asked.of(store, 1199), last);
        LogWeave one = Stores.withAFiring(0);
        Check.same("of the only one", asked.of(one, 0), first);
    }

    private static void noSuchFiring(Check.Asked asked) {
        Check.refuses(new LogWeave(), NONE, asked, -1, 0, 1, MIN, MAX);
        LogWeave one = Stores.withAFiring(0);
        Check.refuses(one, NONE, asked, -1, 1, 2, 6, MIN, MAX);
        one.pass(1);
        one.release(0);
        Check.refuses(one, NONE, asked, -1, 1, 2, MIN, MAX);
        LogWeave most = withMostFirings();
        for (int number : new int[] {-1, 1200, 1201, MIN, MAX}) {
            Check.same("with " + number, Check.answerOf(() -> asked.of(most, number)), "NoSuchElementException");
        }
    }

    private static void theAlertOfAFiring() {
        LogWeave store = withMostFirings();
        for (int firing = 0; firing < 1200; firing++) {
            Check.same("of " + firing, store.alertOf(firing), firing % 6);
        }
        store.release(5);
        Check.same("of a released one", store.alertOf(5), 5);
    }

    private static void theTickOfAFiring() {
        LogWeave store = Stores.withAFiring(2);
        Check.same("at the tick 0", store.firedAt(0), 0);
        store.pass(2);
        lines(store, 1);
        Check.same("when it fires again", store.firedAt(0), 0);
        store.pass(3);
        store.release(0);
        Check.same("when it was released", store.firedAt(0), 0);
        Stores.passTo(store, 5000);
        lines(store, 1);
        Check.same("at the tick 5000", store.firedAt(1), 5000);
    }

    private static void theGround() {
        LogWeave store = Stores.withAFiring(0);
        Check.same("one line", store.ground(0), 1);
        store.archive(0);
        store.pass(1);
        Check.same("an archived one too", store.ground(0), 1);
        store.release(0);
        Check.same("released", store.ground(0), 0);
        lines(store, 1);
        Check.same("the old one, when a new one began", store.ground(0), 0);
        Check.same("the new one", store.ground(1), 1);
        LogWeave most = new LogWeave();
        most.addAlert(0, 0, -1, 0, 9, 50, 0);
        for (int i = 1; i <= 200; i++) {
            lines(most, 1);
            Check.same("after the line " + i, Check.answerOf(() -> most.ground(0)),
                    i < 9 ? "NoSuchElementException" : (Object) i);
        }
        most.pass(50);
        Check.same("all of them", most.ground(0), 200);
        most.release(0);
        Check.same("none of them", most.ground(0), 0);
    }

    private static void firstAndLastLineOfAFiring() {
        LogWeave store = withTheFirstAndTheLastCounted(2);
        for (int i = 0; i < 200; i++) {
            Check.same("the line " + i, store.standsOn(0, i), i == 0 || i == 199);
        }
        Check.same("two lines", store.ground(0), 2);
    }

    private static void whetherItStandsOnIt() {
        LogWeave store = new LogWeave();
        store.addAlert(0, 1, -1, 0, 2, 2, 0);
        Stores.line(store, 0, 4, 10);
        store.pass(1);
        Stores.line(store, 0, 4, 10);
        Stores.line(store, 0, 0, 10);
        Stores.line(store, 1, 4, 10);
        store.pass(1);
        Check.same("it is quiet", store.alertState(0), 'q');
        Stores.line(store, 0, 1, 10);
        boolean[] first = {true, true, false, false, false};
        boolean[] second = {false, true, false, false, true};
        for (int line = 0; line < 5; line++) {
            Check.same("the first one, the line " + line, store.standsOn(0, line), first[line]);
            Check.same("the second one, the line " + line, store.standsOn(1, line), second[line]);
        }
        store.release(0);
        for (int line = 0; line < 5; line++) {
            Check.same("the released one, the line " + line, store.standsOn(0, line), false);
            Check.same("the other one, the line " + line, store.standsOn(1, line), second[line]);
        }
    }

    private static void noSuchLineOfAFiring() {
        LogWeave store = Stores.withAFiring(0);
        Check.refuses(store, NONE, (s, line) -> s.standsOn(0, line), -1, 1, 2, 63, 64, 199, 200, MIN, MAX);
        store.pass(1);
        store.release(0);
        Check.refuses(store, NONE, (s, line) -> s.standsOn(0, line), -1, 1, 200, MIN, MAX);
        LogWeave full = new LogWeave();
        full.addAlert(0, 0, -1, 0, 9, 50, 0);
        lines(full, 200);
        Check.refuses(full, NONE, (s, line) -> s.standsOn(0, line), -1, 200, 255, 256, MIN, MAX);
    }

    // Promises 26 and 27

    private static void sourcesAreLookedAt() {
        LogWeave store = new LogWeave();
        for (int source = 0; source < 4; source++) {
            store.addAlert(source, 0, -1, 0, 1, 1, 0);
            Stores.line(store, source, 0, 10);
            Stores.line(store, source, 1, 10);
            store.setBudget(source, 10);
        }
        Check.same("all are stood on", store.pass(1), 0);
        for (int source = 0; source < 4; source++) {
            Check.same("that of the source " + source, store.release(source), 1);
            Check.same("of the least rank", store.stateOf(2 * source), 'd');
            Check.same("the other one", store.stateOf(2 * source + 1), 'k');
        }
    }

    private static void firstAndLastRelease() {
        LogWeave store = withMostFirings();
        store.setBudget(0, 0);
        Check.same("the first", store.release(0), 0);
        Check.same("the first", store.ground(0), 0);
        Check.same("the last", store.release(1199), 0);
        Check.same("the last", store.ground(1199), 0);
        Check.same("no other one", store.ground(1) + store.ground(1198), 2);
        for (int firing = 1194; firing < 1198; firing++) {
            Check.same("the next", store.release(firing), 0);
        }
        Check.same("the last one on the last line", store.release(1198), 1);
        Check.same("is dropped", store.stateOf(199), 'd');
    }

    private static void theNumberThatAReleaseDrops() {
        LogWeave store = new LogWeave();
        store.addAlert(0, 0, -1, 0, 1, 50, 0);
        for (int i = 0; i < 200; i++) {
            Stores.line(store, 0, i % 5, 99);
        }
        Check.same("nothing yet", store.pass(50), 0);
        Check.same("19800 bytes", store.kept(0), 19800);
        Check.same("until 9999 bytes are just met", store.release(0), 99);
        Check.same("9999 bytes", store.kept(0), 9999);
        LogWeave none = Stores.withAFiring(0);
        none.setBudget(0, 10);
        none.pass(1);
        Check.same("none, within the budget", none.release(0), 0);
        LogWeave one = Stores.withAFiring(0);
        one.setBudget(0, 9);
        one.pass(1);
        Check.same("one, beyond it by one", one.release(0), 1);
    }

    private static void wasReleased() {
        LogWeave store = Stores.withAFiring(0);
        store.pass(1);
        store.release(0);
        Check.refuses(store, STATE, LogWeave::release, 0);
        lines(store, 1);
        Check.same("its alert fires anew", store.alertState(0), 'f');
        Check.refuses(store, STATE, LogWeave::release, 0);
        store.pass(50);
        Check.refuses(store, STATE, LogWeave::release, 0);
    }

    private static void itsAlertFires() {
        LogWeave store = Stores.withAFiring(0);
        Check.refuses(store, UNSUPPORTED, LogWeave::release, 0);
        lines(store, 1);
        Check.refuses(store, UNSUPPORTED, LogWeave::release, 0);
        store.pass(1);
        Check.same("quiet", store.release(0), 0);
        LogWeave again = Stores.withAFiring(3);
        again.pass(3);
        lines(again, 1);
        Check.same("it fires again", again.alertState(0), 'f');
        Check.refuses(again, UNSUPPORTED, LogWeave::release, 0);
    }

    private static void itsAlertIsHeldByIt() {
        for (int hold : new int[] {1, 20}) {
            LogWeave store = Stores.withAFiring(hold);
            for (int tick = 1; tick <= hold; tick++) {
                store.pass(1);
                Check.same("held", store.alertState(0), 'h');
                Check.refuses(store, UNSUPPORTED, LogWeave::release, 0);
            }
            store.pass(1);
            Check.same("quiet", store.alertState(0), 'q');
            Check.same("released", store.release(0), 0);
        }
    }

    /** "by it" is read with both verbs: a firing by which its alert neither fires nor is held may be released. */
    private static void itsAlertFiresByAnother() {
        LogWeave store = Stores.withAFiring(1);
        store.pass(2);
        lines(store, 1);
        store.pass(1);
        store.pass(1);
        lines(store, 1);
        store.setBudget(0, 0);
        Check.same("it fires by the third", store.alertState(0), 'f');
        Check.same("the first", store.release(0), 1);
        Check.refuses(store, UNSUPPORTED, LogWeave::release, 2);
        store.pass(1);
        Check.same("it is held by the third", store.alertState(0), 'h');
        Check.refuses(store, UNSUPPORTED, LogWeave::release, 2);
        Check.same("the second", store.release(1), 1);
        store.pass(1);
        Check.same("the third", store.release(2), 1);
        Check.same("states", Stores.states(store), "ddd");
    }

    private static void firstAndLastGuardedLine() {
        LogWeave store = withTheFirstAndTheLastCounted(9);
        for (int i = 0; i < 200; i++) {
            Check.same("the line " + i, store.isGuarded(i), i == 0 || i == 199);
        }
    }

    private static void whetherItIsGuarded() {
        LogWeave store = Stores.withLines(1);
        Check.same("kept", store.isGuarded(0), false);
        store.addAlert(0, 0, -1, 0, 1, 1, 0);
        Check.same("counted", store.isGuarded(0), true);
        store.setBudget(0, 0);
        store.pass(1);
        Check.same("stood on", store.isGuarded(0), true);
        store.release(0);
        Check.same("dropped", store.isGuarded(0), false);
        store.addAlert(0, 0, -1, 0, 9, 50, 0);
        Check.same("dropped, in the window of an alert", store.isGuarded(0), false);
        LogWeave coming = new LogWeave();
        coming.addAlert(0, 1, -1, 0, 9, 50, 0);
        coming.setBudget(0, 0);
        Stores.line(coming, 0, 0, 10);
        Check.same("dropped as it came", coming.isGuarded(0), false);
    }

    private static void noSuchGuardedLine() {
        Check.refuses(new LogWeave(), NONE, LogWeave::isGuarded, -1, 0, 1, MIN, MAX);
        Check.refuses(Stores.withAFiring(0), NONE, LogWeave::isGuarded, -1, 1, 2, MIN, MAX);
        Check.refuses(Stores.withLines(200), NONE, LogWeave::isGuarded, -1, 200, 256, MIN, MAX);
    }
}
