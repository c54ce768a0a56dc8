/** Stores that several tests begin with. */
final class Stores {
    private static final int MOST_LINES = 200;

    private Stores() {
    }

    static int line(LogWeave store, int source, int rank, int bytes) {
        return store.addLine(source, rank, 1, 1, 1, bytes);
    }

    /** Lines of the source 0, of the rank 2 and of 10 bytes. */
    static LogWeave withLines(int count) {
        LogWeave store = new LogWeave();
        for (int i = 0; i < count; i++) {
            line(store, 0, 2, 10);
        }
        return store;
    }

    static LogWeave withWords(int[]... words) {
        LogWeave store = new LogWeave();
        for (int[] w : words) {
            store.addLine(0, 0, w[0], w[1], w[2], 1);
        }
        return store;
    }

    static int[] words(int first, int second, int third) {
        return new int[] {first, second, third};
    }

    /** 200 patterns of the source 0, no two of which are the same at two places. */
    static LogWeave withMostPatterns() {
        LogWeave store = new LogWeave();
        for (int i = 0; i < MOST_LINES; i++) {
            int word = i % 100;
            store.addLine(0, 0, word, i < 100 ? word : (word + 1) % 100, i / 100, 1);
        }
        return store;
    }

    /** Alerts of the source 3, which count all its lines of a tick and fire at nine. */
    static LogWeave withAlerts(int count) {
        LogWeave store = new LogWeave();
        for (int i = 0; i < count; i++) {
            store.addAlert(3, 0, -1, 0, 9, 1, 0);
        }
        return store;
    }

    static LogWeave withRequests(int count) {
        LogWeave store = new LogWeave();
        for (int i = 0; i < count; i++) {
            store.request(i % 4, i % 5);
        }
        return store;
    }

    /** The source 0 has an alert that each of its lines lets fire for the one tick, and the line 0, at the tick 0. */
    static LogWeave withAFiring(int hold) {
        LogWeave store = new LogWeave();
        store.addAlert(0, 0, -1, 0, 1, 1, hold);
        line(store, 0, 2, 10);
        return store;
    }

    static LogWeave atTick(int tick) {
        LogWeave store = new LogWeave();
        passTo(store, tick);
        return store;
    }

    static int passTo(LogWeave store, int tick) {
        int dropped = 0;
        while (store.tick() < tick) {
            dropped += store.pass(Math.min(50, tick - store.tick()));
        }
        return dropped;
    }

    static String states(LogWeave store) {
        StringBuilder text = new StringBuilder();
        for (int i = 0; i < store.lines(); i++) {
            text.append(store.stateOf(i));
        }
        return text.toString();
    }
}
