import java.util.NoSuchElementException;

/** Promises 10 to 15. */
public final class BudgetsAndArchivesTest {
    private static final Class<IllegalArgumentException> ARGUMENT = IllegalArgumentException.class;
    private static final Class<IllegalStateException> STATE = IllegalStateException.class;
    private static final Class<NoSuchElementException> NONE = NoSuchElementException.class;

    private BudgetsAndArchivesTest() {
    }

    public static void main(String[] args) {
        theLeastRankIsDroppedFirst();
        aBudgetThatIsJustMetDropsNothing();
        aComingLineMayBeDroppedAtOnce();
        onlyTheSourceIsLookedAt();
        guardedLinesAreNotDropped();
        budgetsOutOfRangeAreRefused();
        keptAndDropped();
        archivedLinesDoNotCount();
        archiveRefuses();
        requestsAreAnsweredLater();
        threeWholeLinesTakeATick();
        theDelayIsThatOfWhenItWasMade();
        requestsCountTheLeastRank();
        requestsAreRefused();
        answersAreRefused();
        Check.end();
    }

    private static void line(LogWeave store, int source, int rank, int bytes) {
        store.addLine(source, rank, 1, 1, 1, bytes);
    }

    private static String states(LogWeave store) {
        StringBuilder text = new StringBuilder();
        for (int i = 0; i < store.lines(); i++) {
            text.append(store.stateOf(i));
        }
        return text.toString();
    }

    private static LogWeave withRanks(int... ranks) {
        LogWeave store = new LogWeave();
        for (int rank : ranks) {
            line(store, 0, rank, 10);
        }
        return store;
    }

    private static void theLeastRankIsDroppedFirst() {
        LogWeave store = withRanks(3, 1, 4, 1, 0, 2);
        Check.same("one", store.setBudget(0, 59), 1);
        Check.same("rank 0", states(store), "kkkkdk");
        Check.same("of several the lowest number", store.setBudget(0, 41), 1);
        Check.same("rank 1", states(store), "kdkkdk");
        Check.same("several at once", store.setBudget(0, 20), 2);
        Check.same("ranks 1 and 2", states(store), "kdkddd");
        Check.same("all", store.setBudget(0, 0), 2);
        Check.same("all", states(store), "dddddd");
        Check.same("none left", store.setBudget(0, 0), 0);
        Check.same("a greater one", store.setBudget(0, 9999), 0);
        Check.same("dropped lines do not come back", states(store), "dddddd");
    }

    private static void aBudgetThatIsJustMetDropsNothing() {
        LogWeave store = withRanks(1, 1, 1);
        Check.same("just met", store.setBudget(0, 30), 0);
        Check.same("one byte less", store.setBudget(0, 29), 1);
        Check.same("kept", store.kept(0), 20);
        line(store, 0, 0, 9);
        Check.same("within", states(store), "dkkk");
        line(store, 0, 4, 1);
        Check.same("one byte more", states(store), "dkkdk");
    }

    private static void aComingLineMayBeDroppedAtOnce() {
        LogWeave store = withRanks(2, 2);
        store.setBudget(0, 20);
        line(store, 0, 1, 1);
        Check.same("itself", states(store), "kkd");
        line(store, 0, 2, 1);
        Check.same("the lower number", states(store), "dkdk");
        line(store, 0, 4, 20);
        Check.same("all others", states(store), "ddddk");
        line(store, 0, 4, 21);
        Check.same("a line greater than the budget", states(store), "dddddd");
    }

    private static void onlyTheSourceIsLookedAt() {
        LogWeave store = new LogWeave();
        for (int source = 0; source < 4; source++) {
            line(store, source, source, 50);
            line(store, source, source, 40);
        }
        Check.same("budget", store.setBudget(2, 60), 1);
        Check.same("states", states(store), "kkkkdkkk");
        Check.same("budget", store.setBudget(3, 89), 1);
        Check.same("states", states(store), "kkkkdkdk");
    }

    private static void guardedLinesAreNotDropped() {
        LogWeave store = withRanks(0, 0, 3, 1);
        store.addAlert(0, 3, -1, 0, 9, 5, 0);
        Check.same("the counted one stays", store.setBudget(0, 0), 3);
        Check.same("states", states(store), "ddkd");
        Check.same("kept", store.kept(0), 10);
        line(store, 0, 2, 5);
        Check.same("more than the budget", states(store), "ddkdd");
        Check.same("left alone", store.pass(4), 0);
        Check.same("out of the window", store.pass(1), 1);
        Check.same("states", states(store), "ddddd");
    }

    private static void budgetsOutOfRangeAreRefused() {
        LogWeave store = withRanks(1, 2, 3);
        Check.fails(store, "source -1", ARGUMENT, () -> store.setBudget(-1, 0));
        Check.fails(store, "source 4", ARGUMENT, () -> store.setBudget(4, 0));
        Check.fails(store, "budget -1", ARGUMENT, () -> store.setBudget(0, -1));
        Check.fails(store, "budget 10000", ARGUMENT, () -> store.setBudget(0, 10000));
        Check.fails(store, "great", ARGUMENT, () -> store.setBudget(Integer.MAX_VALUE, Integer.MIN_VALUE));
        line(store, 0, 0, 99);
        Check.same("the budget is as before", states(store), "kkkk");
        Check.same("the greatest", store.setBudget(0, 9999), 0);
        Check.same("the least", store.setBudget(3, 0), 0);
    }

    private static void keptAndDropped() {
        LogWeave store = new LogWeave();
        line(store, 1, 0, 7);
        line(store, 1, 1, 8);
        line(store, 2, 0, 9);
        Check.same("kept", store.kept(1), 15);
        Check.same("kept", store.kept(2), 9);
        Check.same("kept", store.kept(0), 0);
        store.setBudget(1, 8);
        Check.same("kept", store.kept(1), 8);
        Check.same("dropped", store.dropped(1), 1);
        Check.same("dropped", store.dropped(2), 0);
        store.archive(1);
        Check.same("kept", store.kept(1), 0);
        Check.same("archived ones are not dropped", store.dropped(1), 1);
        for (int source : new int[] {-1, 4, Integer.MIN_VALUE, Integer.MAX_VALUE}) {
            Check.fails(store, "kept", ARGUMENT, () -> store.kept(source));
            Check.fails(store, "dropped", ARGUMENT, () -> store.dropped(source));
        }
    }

    private static void archivedLinesDoNotCount() {
        LogWeave store = withRanks(0, 1, 2);
        line(store, 1, 2, 77);
        Check.same("kept then", store.archive(0), 20);
        Check.same("the other source's", store.archive(3), 0);
        Check.same("states", states(store), "akka");
        Check.same("within the budget without them", store.setBudget(0, 20), 0);
        Check.same("one is dropped", store.setBudget(0, 19), 1);
        Check.same("not the archived one", states(store), "adka");
        Check.same("the other one", store.setBudget(0, 0), 1);
        Check.same("archived ones stay", states(store), "adda");
    }

    private static void archiveRefuses() {
        LogWeave store = withRanks(0, 1, 2);
        store.archive(1);
        store.setBudget(0, 10);
        Check.same("states", states(store), "dak");
        Check.fails(store, "dropped", STATE, () -> store.archive(0));
        Check.fails(store, "archived", STATE, () -> store.archive(1));
        Check.fails(store, "no line", NONE, () -> store.archive(-1));
        Check.fails(store, "no line", NONE, () -> store.archive(3));
        Check.fails(store, "no line", NONE, () -> store.archive(Integer.MAX_VALUE));
        Check.same("kept", store.archive(2), 0);
    }

    private static LogWeave withArchived(int archived, int kept) {
        LogWeave store = new LogWeave();
        for (int i = 0; i < archived + kept; i++) {
            line(store, 2, i % 5, 1);
        }
        for (int i = 0; i < archived; i++) {
            store.archive(i);
        }
        return store;
    }

    private static void requestsAreAnsweredLater() {
        LogWeave store = withArchived(0, 3);
        Check.same("the first", store.request(2, 0), 0);
        Check.same("the second", store.request(2, 1), 1);
        Check.fails(store, "not yet", STATE, () -> store.answer(0));
        store.pass(1);
        Check.fails(store, "not yet", STATE, () -> store.answer(0));
        store.archive(0);
        Check.same("the third, made later", store.request(2, 0), 2);
        store.archive(1);
        store.pass(1);
        Check.same("by what there is then", store.answer(0), 2);
        Check.same("rank 1", store.answer(1), 1);
        Check.fails(store, "not yet", STATE, () -> store.answer(2));
        store.archive(2);
        store.pass(1);
        Check.same("the third", store.answer(2), 3);
        Check.same("an answer stays", store.answer(0), 2);
        Check.same("an answer stays", store.answer(1), 1);
    }

    private static void threeWholeLinesTakeATick() {
        int[] archived = {0, 1, 2, 3, 4, 5, 6, 8, 9, 199};
        int[] delays = {2, 2, 2, 3, 3, 3, 4, 4, 5, 68};
        for (int i = 0; i < archived.length; i++) {
            LogWeave store = withArchived(archived[i], 1);
            store.request(2, 0);
            for (int tick = 1; tick < delays[i]; tick++) {
                store.pass(1);
                Check.same("at " + tick, Check.answerOf(() -> store.answer(0)), "IllegalStateException");
            }
            store.pass(1);
            Check.same("of " + archived[i], store.answer(0), archived[i]);
        }
    }

    private static void theDelayIsThatOfWhenItWasMade() {
        LogWeave store = withArchived(2, 4);
        line(store, 1, 0, 1);
        store.archive(6);
        store.request(2, 4);
        store.archive(2);
        store.archive(3);
        store.archive(4);
        store.archive(5);
        store.pass(1);
        Check.fails(store, "not yet", STATE, () -> store.answer(0));
        store.pass(1);
        Check.same("after 2 ticks, the one of rank 4", store.answer(0), 1);
        store.request(2, 4);
        Check.same("six lines of all ranks delay it", store.pass(3), 0);
        Check.fails(store, "not yet", STATE, () -> store.answer(1));
        store.pass(1);
        Check.same("after 4 ticks", store.answer(1), 1);
    }

    private static void requestsCountTheLeastRank() {
        LogWeave store = withArchived(10, 5);
        line(store, 3, 4, 1);
        store.archive(15);
        for (int rank = 0; rank < 5; rank++) {
            store.request(2, rank);
        }
        store.request(3, 0);
        store.request(1, 0);
        store.setBudget(2, 0);
        store.pass(50);
        for (int rank = 0; rank < 5; rank++) {
            Check.same("rank " + rank, store.answer(rank), 10 - 2 * rank);
        }
        Check.same("another source", store.answer(5), 1);
        Check.same("nothing archived", store.answer(6), 0);
    }

    private static void requestsAreRefused() {
        LogWeave store = withArchived(1, 1);
        for (int wrong : new int[] {-1, 4, Integer.MIN_VALUE, Integer.MAX_VALUE}) {
            Check.fails(store, "source", ARGUMENT, () -> store.request(wrong, 0));
        }
        for (int wrong : new int[] {-1, 5, Integer.MIN_VALUE, Integer.MAX_VALUE}) {
            Check.fails(store, "rank", ARGUMENT, () -> store.request(0, wrong));
        }
        for (int i = 0; i < 20; i++) {
            Check.same("number", store.request(i % 4, i % 5), i);
        }
        Check.fails(store, "one too many", STATE, () -> store.request(0, 0));
        Check.fails(store, "one too many, out of range", ARGUMENT, () -> store.request(0, 5));
        store.pass(2);
        Check.fails(store, "answered ones count too", STATE, () -> store.request(0, 0));
    }

    private static void answersAreRefused() {
        LogWeave store = new LogWeave();
        Check.fails(store, "no request", NONE, () -> store.answer(0));
        store.request(0, 0);
        for (int wrong : new int[] {-1, 1, 20, Integer.MIN_VALUE, Integer.MAX_VALUE}) {
            Check.fails(store, "no request", NONE, () -> store.answer(wrong));
        }
        Check.fails(store, "not yet", STATE, () -> store.answer(0));
        store.pass(50);
        Check.same("long ago", store.answer(0), 0);
    }
}
