/** All that the calls that only ask tell of a store, as a text. */
final class Picture {
    private static final int SOURCES = 4;
    private static final int PLACES = 3;
    private static final int ALERTS = 6;
    private static final int REQUESTS = 20;

    private Picture() {
    }

    static String of(LogWeave store) {
        StringBuilder text = new StringBuilder();
        addLines(text, store);
        addPatterns(text, store);
        addSources(text, store);
        addAlerts(text, store);
        addFirings(text, store);
        put(text, "tick", store::tick);
        put(text, "bytes", store::bytes);
        put(text, "droppedShare", store::droppedShare);
        put(text, "meanRank", store::meanRank);
        put(text, "isSound", store::isSound);
        return text.toString();
    }

    private static void put(StringBuilder text, String what, Check.Call call) {
        text.append(what).append('=').append(Check.answerOf(call)).append('\n');
    }

    private static void addLines(StringBuilder text, LogWeave store) {
        put(text, "lines", store::lines);
        for (int i = -1; i <= store.lines(); i++) {
            int line = i;
            put(text, "stateOf " + i, () -> store.stateOf(line));
            put(text, "patternOf " + i, () -> store.patternOf(line));
            put(text, "isGuarded " + i, () -> store.isGuarded(line));
        }
    }

    private static void addPatterns(StringBuilder text, LogWeave store) {
        for (int i = -1; i <= store.lines(); i++) {
            int pattern = i;
            put(text, "linesOf " + i, () -> store.linesOf(pattern));
            for (int j = -1; j <= PLACES; j++) {
                int place = j;
                put(text, "wordAt " + i + " " + j, () -> store.wordAt(pattern, place));
                put(text, "values " + i + " " + j, () -> store.values(pattern, place));
            }
        }
    }

    private static void addSources(StringBuilder text, LogWeave store) {
        for (int i = -1; i <= SOURCES; i++) {
            int source = i;
            put(text, "patterns " + i, () -> store.patterns(source));
            put(text, "kept " + i, () -> store.kept(source));
            put(text, "dropped " + i, () -> store.dropped(source));
        }
        for (int i = -1; i <= REQUESTS; i++) {
            int request = i;
            put(text, "answer " + i, () -> store.answer(request));
        }
    }

    private static void addAlerts(StringBuilder text, LogWeave store) {
        for (int i = -1; i <= ALERTS; i++) {
            int alert = i;
            put(text, "alertState " + i, () -> store.alertState(alert));
            put(text, "counted " + i, () -> store.counted(alert));
            put(text, "countedAnew " + i, () -> store.countedAnew(alert));
            put(text, "heldFor " + i, () -> store.heldFor(alert));
        }
    }

    private static void addFirings(StringBuilder text, LogWeave store) {
        put(text, "firings", store::firings);
        for (int i = -1; i <= store.firings(); i++) {
            int firing = i;
            put(text, "alertOf " + i, () -> store.alertOf(firing));
            put(text, "firedAt " + i, () -> store.firedAt(firing));
            put(text, "ground " + i, () -> store.ground(firing));
            for (int j = -1; j <= store.lines(); j++) {
                int line = j;
                put(text, "standsOn " + i + " " + j, () -> store.standsOn(firing, line));
            }
        }
    }
}
