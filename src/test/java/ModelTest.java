/** Long runs of calls, the same ones each time: LogWeave answers as the document read plainly does. */
public final class ModelTest {
    private static final int RUNS = 400;
    private static final int CALLS = 512;

    private long seed;
    private LogWeave store;
    private PlainStore plain;
    private int words;
    private int sources;
    private int run;
    private int call;

    private ModelTest(int run) {
        this.run = run;
        seed = 7919L * run + 17;
        store = new LogWeave();
        plain = new PlainStore();
        words = new int[] {2, 3, 4, 6, 10, 100}[run % 6];
        sources = 1 + run / 6 % 4;
    }

    public static void main(String[] args) {
        for (int run = 0; run < RUNS; run++) {
            new ModelTest(run).go();
        }
        Check.end();
    }

    private void go() {
        if (run % 3 == 0) {
            for (int source = 0; source < 4; source++) {
                int s = source;
                int budget = 20 + pick(400);
                same("setBudget", () -> store.setBudget(s, budget), () -> plain.setBudget(s, budget));
            }
        }
        for (call = 0; call < CALLS; call++) {
            step();
            lookAround();
            if (call % 64 == 63) {
                lookAtAll();
            }
        }
        lookAtAll();
    }

    private int pick(int bound) {
        seed = seed * 6364136223846793005L + 1442695040888963407L;
        return (int) ((seed >>> 33) % bound);
    }

    /** Now and then a number just out of range. */
    private int near(int least, int greatest) {
        int kind = pick(150);
        if (kind == 0) {
            return least - 1;
        }
        return kind == 1 ? greatest + 1 : least + pick(greatest - least + 1);
    }

    private void same(String what, Check.Call got, Check.Call due) {
        Check.same("run " + run + " call " + call + " " + what, Check.answerOf(got), Check.answerOf(due));
    }

    private int source() {
        return pick(100) == 0 ? near(-1, 4) : pick(sources);
    }

    private void step() {
        int kind = pick(100);
        if (kind < 45) {
            line();
        } else if (kind < 68) {
            int ticks = pick(40) == 0 ? near(0, 51) : 1 + pick(3);
            same("pass " + ticks, () -> store.pass(ticks), () -> plain.pass(ticks));
        } else if (kind < 76) {
            alert();
        } else if (kind < 82) {
            int s = source();
            int budget = pick(3) == 0 ? near(0, 9999) : near(0, 500);
            same("setBudget " + s + " " + budget, () -> store.setBudget(s, budget), () -> plain.setBudget(s, budget));
        } else if (kind < 88) {
            int line = near(0, plain.lines());
            same("archive " + line, () -> store.archive(line), () -> plain.archive(line));
        } else if (kind < 92) {
            int s = source();
            int rank = near(0, 4);
            same("request " + s + " " + rank, () -> store.request(s, rank), () -> plain.request(s, rank));
        } else {
            int firing = near(0, plain.firings());
            same("release " + firing, () -> store.release(firing), () -> plain.release(firing));
        }
    }

    private void line() {
        int s = source();
        int rank = near(0, 4);
        int first = near(0, 99) % words;
        int second = near(0, 99) % words;
        int third = words == 100 ? pick(2) : near(0, 99) % words;
        int bytes = near(1, 99);
        same("addLine " + s + " " + rank + " " + first + " " + second + " " + third + " " + bytes,
                () -> store.addLine(s, rank, first, second, third, bytes),
                () -> plain.addLine(s, rank, first, second, third, bytes));
    }

    private void alert() {
        int s = source();
        int rank = near(0, 4);
        int place = near(-1, 2);
        int word = near(0, words - 1);
        int goal = pick(2) == 0 ? near(1, 3) : near(1, 9);
        int window = pick(2) == 0 ? near(1, 5) : near(1, 50);
        int hold = pick(3) == 0 ? 0 : pick(2) == 0 ? near(0, 4) : near(0, 20);
        same("addAlert " + s + " " + rank + " " + place + " " + word + " " + goal + " " + window + " " + hold,
                () -> store.addAlert(s, rank, place, word, goal, window, hold),
                () -> plain.addAlert(s, rank, place, word, goal, window, hold));
    }

    private void lookAround() {
        int line = near(0, plain.lines());
        int pattern = near(0, plain.lines());
        int place = near(0, 2);
        int s = source();
        int firing = near(0, plain.firings());
        same("stateOf " + line, () -> store.stateOf(line), () -> plain.stateOf(line));
        same("patternOf " + line, () -> store.patternOf(line), () -> plain.patternOf(line));
        same("isGuarded " + line, () -> store.isGuarded(line), () -> plain.isGuarded(line));
        same("patterns " + s, () -> store.patterns(s), () -> plain.patterns(s));
        same("wordAt " + pattern + " " + place, () -> store.wordAt(pattern, place), () -> plain.wordAt(pattern, place));
        same("linesOf " + pattern, () -> store.linesOf(pattern), () -> plain.linesOf(pattern));
        same("values " + pattern + " " + place, () -> store.values(pattern, place), () -> plain.values(pattern, place));
        same("kept " + s, () -> store.kept(s), () -> plain.kept(s));
        same("dropped " + s, () -> store.dropped(s), () -> plain.dropped(s));
        same("firings", store::firings, plain::firings);
        same("ground " + firing, () -> store.ground(firing), () -> plain.ground(firing));
        same("standsOn " + firing + " " + line, () -> store.standsOn(firing, line), () -> plain.standsOn(firing, line));
        same("isSound", store::isSound, () -> true);
    }

    private void lookAtAll() {
        same("lines", store::lines, plain::lines);
        same("tick", store::tick, plain::tick);
        same("bytes", store::bytes, plain::bytes);
        same("droppedShare", store::droppedShare, plain::droppedShare);
        same("meanRank", store::meanRank, plain::meanRank);
        for (int i = -1; i <= plain.lines(); i++) {
            int line = i;
            same("stateOf " + i, () -> store.stateOf(line), () -> plain.stateOf(line));
            same("patternOf " + i, () -> store.patternOf(line), () -> plain.patternOf(line));
            same("isGuarded " + i, () -> store.isGuarded(line), () -> plain.isGuarded(line));
            same("linesOf " + i, () -> store.linesOf(line), () -> plain.linesOf(line));
        }
        for (int i = -1; i <= 20; i++) {
            int number = i;
            same("answer " + i, () -> store.answer(number), () -> plain.answer(number));
        }
        for (int i = -1; i <= 6; i++) {
            int alert = i;
            same("alertState " + i, () -> store.alertState(alert), () -> plain.alertState(alert));
            same("counted " + i, () -> store.counted(alert), () -> plain.counted(alert));
            same("countedAnew " + i, () -> store.countedAnew(alert), () -> plain.counted(alert));
            same("heldFor " + i, () -> store.heldFor(alert), () -> plain.heldFor(alert));
        }
        for (int i = -1; i <= plain.firings(); i++) {
            int firing = i;
            same("alertOf " + i, () -> store.alertOf(firing), () -> plain.alertOf(firing));
            same("firedAt " + i, () -> store.firedAt(firing), () -> plain.firedAt(firing));
            same("ground " + i, () -> store.ground(firing), () -> plain.ground(firing));
        }
    }
}
