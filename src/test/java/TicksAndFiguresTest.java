/** Promises 28 to 33. */
public final class TicksAndFiguresTest {
    private static final Class<IllegalArgumentException> ARGUMENT = IllegalArgumentException.class;
    private static final Class<IllegalStateException> STATE = IllegalStateException.class;
    private static final Class<ArithmeticException> ARITHMETIC = ArithmeticException.class;

    private TicksAndFiguresTest() {
    }

    public static void main(String[] args) {
        ticksPass();
        ticksOutOfRangeAreRefused();
        noTickIsGreaterThan5000();
        passingTicksDropsLines();
        aLongPassIsManyShortOnes();
        whatPassesInATickAndItsOrder();
        bytesOfAllLines();
        theShareOfDroppedLines();
        theMeanRank();
        allIsSound();
        Check.end();
    }

    private static void ticksPass() {
        LogWeave store = new LogWeave();
        Check.same("dropped", store.pass(1), 0);
        Check.same("tick", store.tick(), 1);
        Check.same("dropped", store.pass(50), 0);
        Check.same("tick", store.tick(), 51);
        store.addLine(0, 0, 1, 1, 1, 1);
        store.request(0, 0);
        Check.same("other calls let no tick pass", store.tick(), 51);
    }

    private static void ticksOutOfRangeAreRefused() {
        LogWeave store = new LogWeave();
        store.addAlert(0, 0, -1, 0, 1, 1, 1);
        store.addLine(0, 0, 1, 1, 1, 1);
        for (int wrong : new int[] {0, 51, -1, Integer.MIN_VALUE, Integer.MAX_VALUE}) {
            Check.fails(store, "ticks", ARGUMENT, () -> store.pass(wrong));
        }
    }

    private static void noTickIsGreaterThan5000() {
        LogWeave store = new LogWeave();
        for (int i = 0; i < 99; i++) {
            store.pass(50);
        }
        store.pass(49);
        Check.same("tick", store.tick(), 4999);
        store.addAlert(0, 0, -1, 0, 1, 1, 1);
        store.addLine(0, 0, 1, 1, 1, 1);
        Check.fails(store, "two", STATE, () -> store.pass(2));
        Check.fails(store, "50", STATE, () -> store.pass(50));
        Check.fails(store, "out of range", ARGUMENT, () -> store.pass(51));
        Check.same("one", store.pass(1), 0);
        Check.same("tick", store.tick(), 5000);
        Check.same("held", store.alertState(0), 'h');
        Check.fails(store, "one", STATE, () -> store.pass(1));
        Check.same("a line at the last tick", store.addLine(0, 0, 1, 1, 1, 1), 1);
        Check.same("fires again", store.alertState(0), 'f');
    }

    private static void passingTicksDropsLines() {
        LogWeave store = new LogWeave();
        for (int source = 0; source < 4; source++) {
            store.addAlert(source, 0, -1, 0, 9, source + 1, 0);
            store.addLine(source, 0, 1, 1, 1, 5);
            store.addLine(source, 0, 1, 1, 1, 5);
            store.setBudget(source, source);
        }
        Check.same("one source", store.pass(1), 2);
        Check.same("source 0", store.dropped(0), 2);
        Check.same("two sources", store.pass(2), 4);
        Check.same("source 3 is guarded", store.dropped(3), 0);
        Check.same("the last one", store.pass(50), 2);
        Check.same("nothing is left", store.pass(50), 0);
    }

    private static LogWeave mixed() {
        LogWeave store = new LogWeave();
        store.addAlert(0, 0, -1, 0, 2, 7, 3);
        store.addAlert(0, 2, 1, 1, 1, 11, 5);
        store.addAlert(1, 1, 0, 2, 1, 4, 0);
        store.setBudget(0, 40);
        store.setBudget(1, 25);
        for (int i = 0; i < 20; i++) {
            store.addLine(i % 2, i % 5, i % 3, i % 4, 1, 5 + i);
            if (i % 4 == 3) {
                store.pass(1);
            }
        }
        store.request(0, 0);
        store.request(1, 1);
        return store;
    }

    private static void aLongPassIsManyShortOnes() {
        for (int ticks = 1; ticks <= 50; ticks++) {
            LogWeave once = mixed();
            LogWeave often = mixed();
            int sum = 0;
            for (int i = 0; i < ticks; i++) {
                sum += often.pass(1);
            }
            Check.same("dropped in " + ticks, once.pass(ticks), sum);
            Check.same("after " + ticks, Picture.of(once), Picture.of(often));
        }
    }

    private static void whatPassesInATickAndItsOrder() {
        LogWeave store = new LogWeave();
        store.setBudget(0, 0);
        store.addAlert(0, 0, -1, 0, 1, 1, 0);
        store.addLine(0, 0, 1, 1, 1, 9);
        store.addLine(0, 1, 1, 1, 1, 9);
        Check.same("the firing stands on both", store.pass(1), 0);
        store.addAlert(0, 1, -1, 0, 9, 2, 0);
        Check.same("one is counted too", store.counted(1), 1);
        Check.same("the other is dropped", store.release(0), 1);
        Check.same("the count falls before the source is looked at", store.pass(1), 1);
        Check.same("no line is kept", store.kept(0), 0);
    }

    private static void bytesOfAllLines() {
        LogWeave store = new LogWeave();
        store.addLine(0, 0, 1, 1, 1, 99);
        store.addLine(1, 0, 1, 1, 1, 50);
        store.addLine(3, 0, 1, 1, 1, 1);
        Check.same("bytes", store.bytes(), 150L);
        store.archive(0);
        store.setBudget(1, 0);
        Check.same("archived and dropped ones too", store.bytes(), 150L);
        for (int i = 3; i < 200; i++) {
            store.addLine(i % 4, 0, 1, 1, 1, 99);
        }
        Check.same("of 200 lines", store.bytes(), 150L + 197 * 99);
    }

    private static void theShareOfDroppedLines() {
        LogWeave store = new LogWeave();
        Check.fails(store, "no lines", ARITHMETIC, store::droppedShare);
        store.addLine(0, 0, 1, 1, 1, 5);
        Check.same("none", store.droppedShare(), 0.0f);
        store.addLine(1, 0, 1, 1, 1, 5);
        store.addLine(2, 0, 1, 1, 1, 5);
        store.archive(2);
        store.setBudget(1, 0);
        Check.same("a third", store.droppedShare(), 1.0f / 3.0f);
        store.setBudget(0, 0);
        Check.same("two thirds", store.droppedShare(), 2.0f / 3.0f);
        LogWeave all = new LogWeave();
        all.setBudget(0, 0);
        all.addLine(0, 0, 1, 1, 1, 5);
        Check.same("all", all.droppedShare(), 1.0f);
    }

    private static void theMeanRank() {
        LogWeave store = new LogWeave();
        Check.fails(store, "no lines", ARITHMETIC, store::meanRank);
        store.addLine(0, 4, 1, 1, 1, 5);
        Check.same("one", store.meanRank(), 4.0);
        store.addLine(1, 3, 1, 1, 1, 5);
        store.addLine(2, 0, 1, 1, 1, 5);
        Check.same("three", store.meanRank(), 7.0 / 3.0);
        store.archive(0);
        Check.same("without the archived one", store.meanRank(), 1.5);
        store.setBudget(1, 0);
        Check.same("without the dropped one", store.meanRank(), 0.0);
        store.setBudget(2, 0);
        Check.fails(store, "none is kept", ARITHMETIC, store::meanRank);
    }

    private static void allIsSound() {
        LogWeave store = mixed();
        Check.same("sound", store.isSound(), true);
        for (int i = 0; i < 30; i++) {
            store.pass(1);
            Check.same("sound", store.isSound(), true);
        }
        for (int i = 0; i < store.firings(); i++) {
            store.release(i);
            Check.same("sound", store.isSound(), true);
        }
        Check.same("something was released", store.firings() > 0, true);
        Check.same("something was dropped", store.droppedShare() > 0, true);
    }
}
