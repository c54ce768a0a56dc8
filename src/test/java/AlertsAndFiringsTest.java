import java.util.NoSuchElementException;

/** Promises 16 to 27. */
public final class AlertsAndFiringsTest {
    private static final Class<IllegalArgumentException> ARGUMENT = IllegalArgumentException.class;
    private static final Class<IllegalStateException> STATE = IllegalStateException.class;
    private static final Class<NoSuchElementException> NONE = NoSuchElementException.class;
    private static final Class<IndexOutOfBoundsException> INDEX = IndexOutOfBoundsException.class;
    private static final Class<UnsupportedOperationException> UNSUPPORTED = UnsupportedOperationException.class;

    private AlertsAndFiringsTest() {
    }

    public static void main(String[] args) {
        alertsHaveNumbers();
        alertsOutOfRangeAreRefused();
        theEdgesOfRangesAreTaken();
        whatAnAlertCounts();
        droppedLinesAreNotCounted();
        archivedLinesAreCounted();
        theWindow();
        anAddedAlertIsLookedAt();
        anAlertFiresAtItsGoal();
        anAlertIsHeld();
        anAlertWithoutHoldGetsQuiet();
        aHeldAlertFiresAgain();
        aHoldOfTheGreatestLength();
        firingsAreInTheOrderOfAlerts();
        aFiringGathersLines();
        aFiringKeepsLinesThatLeave();
        releaseRefuses();
        releaseDropsLines();
        releaseOfAnOldFiring();
        aLineOnWhichTwoFiringsStand();
        guardedLines();
        allSourcesAreLookedAtByRelease();
        manyFirings();
        wrongNumbersAreRefused();
        Check.end();
    }

    private static int line(LogWeave store, int source, int rank, int second) {
        return store.addLine(source, rank, 1, second, 1, 10);
    }

    private static void alert(LogWeave store, int number, char state, int counted, int heldFor) {
        Check.same("state of " + number, store.alertState(number), state);
        Check.same("counted by " + number, store.counted(number), counted);
        Check.same("counted anew by " + number, store.countedAnew(number), counted);
        Check.same("held: " + number, store.heldFor(number), heldFor);
    }

    private static void alertsHaveNumbers() {
        LogWeave store = new LogWeave();
        for (int i = 0; i < 6; i++) {
            Check.same("number", store.addAlert(i % 4, 0, -1, 0, 1, 1, 0), i);
            alert(store, i, 'q', 0, 0);
        }
        Check.fails(store, "one too many", STATE, () -> store.addAlert(0, 0, -1, 0, 1, 1, 0));
        Check.fails(store, "and out of range", ARGUMENT, () -> store.addAlert(0, 0, -1, 0, 0, 1, 0));
    }

    private static void alertsOutOfRangeAreRefused() {
        LogWeave store = new LogWeave();
        line(store, 0, 0, 0);
        for (int wrong : new int[] {-1, 4, Integer.MIN_VALUE, Integer.MAX_VALUE}) {
            Check.fails(store, "source", ARGUMENT, () -> store.addAlert(wrong, 0, 0, 0, 1, 1, 0));
        }
        for (int wrong : new int[] {-1, 5}) {
            Check.fails(store, "rank", ARGUMENT, () -> store.addAlert(0, wrong, 0, 0, 1, 1, 0));
        }
        for (int wrong : new int[] {-2, 3, Integer.MIN_VALUE, Integer.MAX_VALUE}) {
            Check.fails(store, "place", ARGUMENT, () -> store.addAlert(0, 0, wrong, 0, 1, 1, 0));
        }
        for (int wrong : new int[] {-1, 100}) {
            Check.fails(store, "word", ARGUMENT, () -> store.addAlert(0, 0, 0, wrong, 1, 1, 0));
            Check.fails(store, "word without a place", ARGUMENT, () -> store.addAlert(0, 0, -1, wrong, 1, 1, 0));
        }
        for (int wrong : new int[] {0, 10, -1}) {
            Check.fails(store, "goal", ARGUMENT, () -> store.addAlert(0, 0, 0, 0, wrong, 1, 0));
        }
        for (int wrong : new int[] {0, 51, -1}) {
            Check.fails(store, "window", ARGUMENT, () -> store.addAlert(0, 0, 0, 0, 1, wrong, 0));
        }
        for (int wrong : new int[] {-1, 21}) {
            Check.fails(store, "hold", ARGUMENT, () -> store.addAlert(0, 0, 0, 0, 1, 1, wrong));
        }
        Check.same("no number was used", store.addAlert(0, 0, 0, 0, 1, 1, 0), 0);
    }

    private static void theEdgesOfRangesAreTaken() {
        LogWeave store = new LogWeave();
        Check.same("the least", store.addAlert(0, 0, -1, 0, 1, 1, 0), 0);
        Check.same("the greatest", store.addAlert(3, 4, 2, 99, 9, 50, 20), 1);
        Check.same("a word without a place", store.addAlert(3, 4, -1, 99, 9, 50, 20), 2);
        for (int i = 0; i < 8; i++) {
            store.addLine(3, 4, 0, 0, 99, 1);
        }
        alert(store, 0, 'q', 0, 0);
        alert(store, 1, 'q', 8, 0);
        store.addLine(3, 4, 0, 0, 99, 1);
        alert(store, 1, 'f', 9, 0);
        alert(store, 2, 'f', 9, 0);
    }

    private static void whatAnAlertCounts() {
        LogWeave store = new LogWeave();
        store.addAlert(1, 2, -1, 7, 9, 50, 0);
        store.addAlert(1, 2, 0, 7, 9, 50, 0);
        store.addAlert(1, 2, 1, 7, 9, 50, 0);
        store.addAlert(1, 2, 2, 7, 9, 50, 0);
        store.addLine(1, 2, 1, 2, 3, 1);
        store.addLine(1, 3, 7, 2, 3, 1);
        store.addLine(1, 4, 1, 7, 3, 1);
        store.addLine(1, 2, 1, 7, 7, 1);
        store.addLine(1, 1, 7, 7, 7, 1);
        store.addLine(2, 4, 7, 7, 7, 1);
        store.addLine(0, 4, 7, 7, 7, 1);
        alert(store, 0, 'q', 4, 0);
        alert(store, 1, 'q', 1, 0);
        alert(store, 2, 'q', 2, 0);
        alert(store, 3, 'q', 1, 0);
        Check.same("rank too low", store.isGuarded(4), false);
        Check.same("another source", store.isGuarded(5), false);
    }

    private static void droppedLinesAreNotCounted() {
        LogWeave store = new LogWeave();
        line(store, 0, 0, 5);
        line(store, 0, 1, 5);
        store.setBudget(0, 10);
        store.addAlert(0, 0, 1, 5, 2, 3, 0);
        alert(store, 0, 'q', 1, 0);
        store.pass(2);
        alert(store, 0, 'q', 1, 0);
        store.pass(1);
        alert(store, 0, 'q', 0, 0);
        store.pass(1);
        alert(store, 0, 'q', 0, 0);
    }

    private static void archivedLinesAreCounted() {
        LogWeave store = new LogWeave();
        line(store, 0, 0, 5);
        line(store, 0, 1, 5);
        store.archive(0);
        store.addAlert(0, 0, -1, 0, 3, 2, 0);
        alert(store, 0, 'q', 2, 0);
        store.archive(1);
        alert(store, 0, 'q', 2, 0);
        Check.same("an archived line is guarded", store.isGuarded(0), true);
        line(store, 0, 0, 5);
        alert(store, 0, 'f', 3, 0);
        Check.same("stands on an archived line", store.standsOn(0, 1), true);
        store.pass(2);
        alert(store, 0, 'q', 0, 0);
        Check.same("an archived line is guarded", store.isGuarded(0), true);
        store.release(0);
        Check.same("not longer", store.isGuarded(0), false);
    }

    private static void theWindow() {
        for (int window : new int[] {1, 2, 49, 50}) {
            LogWeave store = new LogWeave();
            store.addAlert(0, 0, -1, 0, 9, window, 0);
            store.pass(3);
            line(store, 0, 0, 0);
            line(store, 1, 0, 0);
            alert(store, 0, 'q', 1, 0);
            for (int i = 1; i < window; i++) {
                store.pass(1);
                alert(store, 0, 'q', 1, 0);
            }
            Check.same("guarded", store.isGuarded(0), true);
            store.pass(1);
            alert(store, 0, 'q', 0, 0);
            Check.same("no more", store.isGuarded(0), false);
        }
        LogWeave store = new LogWeave();
        store.addAlert(0, 0, -1, 0, 9, 3, 0);
        int[] due = {1, 2, 3, 3, 3, 3};
        for (int count : due) {
            line(store, 0, 0, 0);
            alert(store, 0, 'q', count, 0);
            store.pass(1);
        }
        alert(store, 0, 'q', 2, 0);
        store.pass(1);
        alert(store, 0, 'q', 1, 0);
        store.pass(1);
        alert(store, 0, 'q', 0, 0);
    }

    private static void anAddedAlertIsLookedAt() {
        LogWeave store = new LogWeave();
        line(store, 0, 0, 0);
        store.pass(2);
        line(store, 0, 0, 0);
        store.pass(1);
        store.addAlert(0, 0, -1, 0, 2, 3, 0);
        alert(store, 0, 'q', 1, 0);
        store.addAlert(0, 0, -1, 0, 2, 4, 0);
        alert(store, 1, 'f', 2, 0);
        Check.same("firings", store.firings(), 1);
        Check.same("alert", store.alertOf(0), 1);
        Check.same("tick", store.firedAt(0), 3);
        Check.same("ground", store.ground(0), 2);
    }

    private static void anAlertFiresAtItsGoal() {
        LogWeave store = new LogWeave();
        store.addAlert(0, 1, -1, 0, 3, 10, 4);
        store.pass(7);
        line(store, 0, 1, 0);
        line(store, 0, 0, 0);
        line(store, 0, 1, 0);
        alert(store, 0, 'q', 2, 0);
        Check.same("firings", store.firings(), 0);
        store.pass(1);
        line(store, 0, 4, 0);
        alert(store, 0, 'f', 3, 0);
        Check.same("firings", store.firings(), 1);
        Check.same("alert", store.alertOf(0), 0);
        Check.same("tick", store.firedAt(0), 8);
        Check.same("ground", store.ground(0), 3);
        boolean[] due = {true, false, true, true};
        for (int i = 0; i < due.length; i++) {
            Check.same("stands on " + i, store.standsOn(0, i), due[i]);
            Check.same("guards " + i, store.isGuarded(i), due[i]);
        }
        line(store, 0, 4, 0);
        Check.same("the same firing", store.firings(), 1);
        Check.same("stands on the new line", store.ground(0), 4);
        Check.same("began", store.firedAt(0), 8);
    }

    private static void anAlertIsHeld() {
        LogWeave store = new LogWeave();
        store.addAlert(0, 0, -1, 0, 2, 2, 3);
        line(store, 0, 0, 0);
        line(store, 0, 0, 0);
        store.pass(1);
        alert(store, 0, 'f', 2, 0);
        store.pass(1);
        alert(store, 0, 'h', 0, 3);
        store.pass(1);
        alert(store, 0, 'h', 0, 2);
        line(store, 0, 0, 0);
        alert(store, 0, 'h', 1, 2);
        store.pass(1);
        alert(store, 0, 'h', 1, 1);
        store.pass(1);
        alert(store, 0, 'q', 0, 0);
        Check.same("a line too few gives no ground", store.ground(0), 2);
        Check.same("firings", store.firings(), 1);
        store.pass(50);
        alert(store, 0, 'q', 0, 0);
    }

    private static void anAlertWithoutHoldGetsQuiet() {
        LogWeave store = new LogWeave();
        store.addAlert(0, 0, -1, 0, 1, 1, 0);
        for (int i = 0; i < 3; i++) {
            line(store, 0, 0, 0);
            alert(store, 0, 'f', 1, 0);
            Check.same("a new firing", store.firings(), i + 1);
            Check.same("at its tick", store.firedAt(i), i);
            Check.same("on one line", store.ground(i), 1);
            Check.same("on its line", store.standsOn(i, i), true);
            store.pass(1);
            alert(store, 0, 'q', 0, 0);
        }
        Check.same("not on others", store.standsOn(2, 0), false);
    }

    private static void aHeldAlertFiresAgain() {
        LogWeave store = new LogWeave();
        store.addAlert(0, 0, -1, 0, 2, 2, 3);
        line(store, 0, 0, 0);
        line(store, 0, 0, 0);
        store.pass(4);
        alert(store, 0, 'h', 0, 1);
        line(store, 0, 0, 0);
        line(store, 0, 0, 0);
        alert(store, 0, 'f', 2, 0);
        Check.same("the same firing", store.firings(), 1);
        Check.same("began", store.firedAt(0), 0);
        Check.same("stands on the old ones too", store.ground(0), 4);
        store.pass(2);
        alert(store, 0, 'h', 0, 3);
        store.pass(3);
        alert(store, 0, 'q', 0, 0);
        line(store, 0, 0, 0);
        line(store, 0, 0, 0);
        Check.same("a new firing", store.firings(), 2);
        Check.same("on its own lines", store.ground(1), 2);
        Check.same("the old one as before", store.ground(0), 4);
    }

    private static void aHoldOfTheGreatestLength() {
        LogWeave store = new LogWeave();
        store.addAlert(0, 0, -1, 0, 1, 1, 20);
        line(store, 0, 0, 0);
        store.pass(20);
        alert(store, 0, 'h', 0, 1);
        store.pass(1);
        alert(store, 0, 'q', 0, 0);
        LogWeave short1 = new LogWeave();
        short1.addAlert(0, 0, -1, 0, 1, 1, 1);
        line(short1, 0, 0, 0);
        short1.pass(1);
        alert(short1, 0, 'h', 0, 1);
        short1.pass(1);
        alert(short1, 0, 'q', 0, 0);
    }

    private static void firingsAreInTheOrderOfAlerts() {
        LogWeave store = new LogWeave();
        store.addAlert(0, 0, -1, 0, 2, 5, 0);
        store.addAlert(0, 0, -1, 0, 1, 5, 0);
        store.addAlert(1, 0, -1, 0, 1, 5, 0);
        store.addAlert(0, 0, 1, 3, 1, 5, 0);
        line(store, 0, 0, 0);
        line(store, 0, 0, 3);
        line(store, 1, 0, 3);
        int[] due = {1, 0, 3, 2};
        Check.same("firings", store.firings(), due.length);
        for (int i = 0; i < due.length; i++) {
            Check.same("alert of " + i, store.alertOf(i), due[i]);
            Check.same("tick of " + i, store.firedAt(i), 0);
        }
    }

    private static void aFiringGathersLines() {
        LogWeave store = new LogWeave();
        store.addAlert(2, 0, -1, 0, 1, 3, 0);
        for (int i = 0; i < 200; i++) {
            line(store, i % 2 == 0 ? 2 : 3, 0, i % 7);
            store.pass(1);
        }
        Check.same("one firing", store.firings(), 1);
        Check.same("on all lines of its source", store.ground(0), 100);
        for (int i = 0; i < 200; i++) {
            Check.same("stands on " + i, store.standsOn(0, i), i % 2 == 0);
            Check.same("guards " + i, store.isGuarded(i), i % 2 == 0);
        }
        Check.same("nothing of it is dropped", store.setBudget(2, 0), 0);
        store.pass(3);
        Check.same("all is dropped", store.release(0), 100);
        Check.same("ground", store.ground(0), 0);
    }

    private static void aFiringKeepsLinesThatLeave() {
        LogWeave store = new LogWeave();
        store.setBudget(0, 0);
        store.addAlert(0, 0, -1, 0, 2, 2, 2);
        line(store, 0, 0, 0);
        store.pass(1);
        line(store, 0, 0, 0);
        store.pass(1);
        alert(store, 0, 'h', 1, 2);
        Check.same("left the window, stood on", store.isGuarded(0), true);
        Check.same("nothing dropped", store.pass(10), 0);
        alert(store, 0, 'q', 0, 0);
        line(store, 0, 0, 0);
        Check.same("counted alone", store.isGuarded(2), true);
        Check.same("dropped as it leaves", store.pass(2), 1);
        Check.same("it", store.stateOf(2), 'd');
        Check.same("a dropped line is not guarded", store.isGuarded(2), false);
    }

    private static LogWeave withAFiring() {
        LogWeave store = new LogWeave();
        store.addAlert(0, 0, -1, 0, 1, 1, 1);
        line(store, 0, 3, 0);
        return store;
    }

    private static void releaseRefuses() {
        LogWeave store = withAFiring();
        Check.fails(store, "fires", UNSUPPORTED, () -> store.release(0));
        for (int wrong : new int[] {-1, 1, Integer.MIN_VALUE, Integer.MAX_VALUE}) {
            Check.fails(store, "no firing", NONE, () -> store.release(wrong));
        }
        store.pass(1);
        alert(store, 0, 'h', 0, 1);
        Check.fails(store, "held", UNSUPPORTED, () -> store.release(0));
        store.pass(1);
        Check.same("quiet", store.release(0), 0);
        Check.fails(store, "released", STATE, () -> store.release(0));
        line(store, 0, 3, 0);
        Check.fails(store, "released, the alert fires anew", STATE, () -> store.release(0));
        Check.fails(store, "the new one", UNSUPPORTED, () -> store.release(1));
    }

    private static void releaseDropsLines() {
        LogWeave store = new LogWeave();
        store.addAlert(0, 1, -1, 0, 3, 2, 0);
        for (int rank : new int[] {2, 1, 0, 1, 4}) {
            line(store, 0, rank, 0);
        }
        Check.same("the one on which nothing stands", store.setBudget(0, 15), 1);
        Check.same("it", store.stateOf(2), 'd');
        store.pass(2);
        alert(store, 0, 'q', 0, 0);
        Check.same("ground", store.ground(0), 4);
        Check.same("three of four", store.release(0), 3);
        Check.same("kept", store.stateOf(4), 'k');
        Check.same("ground", store.ground(0), 0);
        Check.same("alert", store.alertOf(0), 0);
        Check.same("tick", store.firedAt(0), 0);
        Check.same("firings", store.firings(), 1);
        for (int i = 0; i < 5; i++) {
            Check.same("stands on " + i, store.standsOn(0, i), false);
            Check.same("guarded " + i, store.isGuarded(i), false);
        }
        Check.same("sound", store.isSound(), true);
    }

    private static void releaseOfAnOldFiring() {
        LogWeave store = withAFiring();
        store.setBudget(0, 0);
        store.pass(2);
        line(store, 0, 3, 0);
        alert(store, 0, 'f', 1, 0);
        Check.same("two firings", store.firings(), 2);
        Check.same("the old one is released while the new one is on", store.release(0), 1);
        Check.same("dropped", store.stateOf(0), 'd');
        Check.same("kept", store.stateOf(1), 'k');
        Check.same("the new one stands", store.ground(1), 1);
        store.pass(1);
        Check.fails(store, "held by it", UNSUPPORTED, () -> store.release(1));
        store.pass(1);
        Check.same("quiet", store.release(1), 1);
    }

    private static void aLineOnWhichTwoFiringsStand() {
        LogWeave store = new LogWeave();
        store.setBudget(0, 0);
        store.addAlert(0, 0, -1, 0, 1, 1, 0);
        store.addAlert(0, 0, 1, 5, 1, 2, 0);
        line(store, 0, 0, 5);
        store.pass(1);
        Check.same("the first is released", store.release(0), 0);
        Check.same("counted and stood on", store.isGuarded(0), true);
        store.pass(1);
        Check.same("stood on", store.isGuarded(0), true);
        Check.same("stood on", store.standsOn(1, 0), true);
        Check.same("the first does not stand on it", store.standsOn(0, 0), false);
        Check.same("the second is released", store.release(1), 1);
    }

    private static void guardedLines() {
        LogWeave store = new LogWeave();
        line(store, 0, 0, 0);
        line(store, 0, 1, 0);
        Check.same("nothing needs it", store.isGuarded(0), false);
        store.addAlert(0, 1, -1, 0, 2, 3, 0);
        Check.same("rank too low", store.isGuarded(0), false);
        Check.same("counted by a quiet alert", store.isGuarded(1), true);
        for (int wrong : new int[] {-1, 2, Integer.MIN_VALUE, Integer.MAX_VALUE}) {
            Check.fails(store, "no line", NONE, () -> store.isGuarded(wrong));
        }
    }

    private static void allSourcesAreLookedAtByRelease() {
        LogWeave store = withAFiring();
        store.pass(2);
        line(store, 3, 0, 0);
        store.addAlert(3, 0, -1, 0, 9, 1, 0);
        store.setBudget(3, 5);
        store.setBudget(0, 5);
        Check.same("nothing dropped yet", store.dropped(0) + store.dropped(3), 0);
        Check.same("that of its source", store.release(0), 1);
        Check.same("the counted one is guarded", store.dropped(3), 0);
        Check.same("then not", store.pass(1), 1);
        Check.same("source 3", store.dropped(3), 1);
    }

    private static void manyFirings() {
        LogWeave store = new LogWeave();
        for (int i = 0; i < 6; i++) {
            store.addAlert(1, 0, -1, 0, 1, 1, 0);
        }
        for (int i = 0; i < 200; i++) {
            line(store, 1, 0, 0);
            store.pass(1);
        }
        Check.same("firings", store.firings(), 1200);
        Check.same("alert", store.alertOf(1199), 5);
        Check.same("tick", store.firedAt(1199), 199);
        Check.same("ground", store.ground(1199), 1);
        Check.same("line", store.standsOn(1199, 199), true);
        Check.same("sound", store.isSound(), true);
        store.setBudget(1, 0);
        for (int i = 0; i < 5; i++) {
            Check.same("five of six", store.release(i), 0);
        }
        Check.same("the sixth", store.release(5), 1);
        Check.same("dropped", store.stateOf(0), 'd');
    }

    private static void wrongNumbersAreRefused() {
        LogWeave store = withAFiring();
        for (int wrong : new int[] {-1, 1, 6, Integer.MIN_VALUE, Integer.MAX_VALUE}) {
            Check.fails(store, "alertState", INDEX, () -> store.alertState(wrong));
            Check.fails(store, "counted", INDEX, () -> store.counted(wrong));
            Check.fails(store, "countedAnew", INDEX, () -> store.countedAnew(wrong));
            Check.fails(store, "heldFor", INDEX, () -> store.heldFor(wrong));
            Check.fails(store, "alertOf", NONE, () -> store.alertOf(wrong));
            Check.fails(store, "firedAt", NONE, () -> store.firedAt(wrong));
            Check.fails(store, "ground", NONE, () -> store.ground(wrong));
            Check.fails(store, "standsOn, no firing", NONE, () -> store.standsOn(wrong, 0));
            Check.fails(store, "standsOn, no line", NONE, () -> store.standsOn(0, wrong));
        }
        store.pass(2);
        store.release(0);
        Check.fails(store, "standsOn, released, no line", NONE, () -> store.standsOn(0, 1));
    }
}
