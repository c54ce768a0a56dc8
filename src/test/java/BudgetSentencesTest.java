import java.util.NoSuchElementException;

/** A test of its own for each sentence of the document about budgets and archives: promises 10 to 15. */
public final class BudgetSentencesTest {
    private static final Class<IllegalArgumentException> ARGUMENT = IllegalArgumentException.class;
    private static final Class<IllegalStateException> STATE = IllegalStateException.class;
    private static final Class<NoSuchElementException> NONE = NoSuchElementException.class;
    private static final int MIN = Integer.MIN_VALUE;
    private static final int MAX = Integer.MAX_VALUE;

    private BudgetSentencesTest() {
    }

    public static void main(String[] args) {
        all().run();
    }

    static Sentences all() {
        Sentences all = new Sentences();
        addTerms(all);
        addBudgets(all);
        addArchives(all);
        return all;
    }

    private static void addTerms(Sentences all) {
        String budgets = "When a source is looked at, and the bytes of its lines that are kept are more than its"
                + " budget, a line is dropped: of its lines that are kept and not guarded the one with the least rank,"
                + " of several the one with the lowest number; and so on, until the bytes are within the budget, or"
                + " there is no such line.";
        all.add("Budgets", budgets, BudgetSentencesTest::aBudgetThatIsJustMet);
        all.add("Budgets", budgets, BudgetSentencesTest::aBudgetThatIsExceededByOne);
        all.add("Budgets", budgets, BudgetSentencesTest::theLeastRankAndTheLowestNumber);
        all.add("Budgets", budgets, BudgetSentencesTest::guardedLinesAreLeft);
        all.add("Budgets", budgets, BudgetSentencesTest::untilThereIsNoSuchLine);
        all.add("Archives", "A line that is archived does not count for the budget of its source.",
                BudgetSentencesTest::archivedLinesDoNotCount);
        String requests = "A request asks for the number of archived lines of a source with a least rank; it is"
                + " answered 2 ticks, and 1 tick more for each 3 whole lines of the source that are archived when it is"
                + " made, later, by what there is then.";
        all.add("Archives", requests, BudgetSentencesTest::whatARequestAsksFor);
        all.add("Archives", requests, BudgetSentencesTest::eachThreeWholeLines);
        all.add("Archives", requests, BudgetSentencesTest::thoseThatDoNotDelay);
        all.add("Archives", requests, BudgetSentencesTest::byWhatThereIsThen);
    }

    private static void addBudgets(Sentences all) {
        String source = "Throws `IllegalArgumentException` if the source is out of range";
        all.add("Promise 10", "Sets the budget of a source, which is looked at then.",
                BudgetSentencesTest::theSourceIsLookedAtThen);
        all.add("Promise 10", "`source`: the source, 0 to 3", BudgetSentencesTest::sourcesOfBudgets);
        all.add("Promise 10", "`bytes`: the budget, 0 to 9999", BudgetSentencesTest::edgesOfBudgets);
        all.add("Promise 10", "Returns the number of lines that are dropped.",
                BudgetSentencesTest::theNumberThatABudgetDrops);
        all.add("Promise 10", "Throws `IllegalArgumentException` if the source or the budget is out of range",
                BudgetSentencesTest::budgetsOutOfRange);
        all.add("Promise 11", "`source`: the source, 0 to 3", () -> sourcesOf(LogWeave::kept, 10));
        all.add("Promise 11", "Returns the bytes.", BudgetSentencesTest::theBytesThatAreKept);
        all.add("Promise 11", source,
                () -> Check.refuses(Stores.withLines(2), ARGUMENT, LogWeave::kept, Check.beyond(0, 3)));
        all.add("Promise 12", "`source`: the source, 0 to 3", () -> sourcesOf(LogWeave::dropped, 1));
        all.add("Promise 12", "Returns the number of lines.", BudgetSentencesTest::theNumberOfDroppedLines);
        all.add("Promise 12", source,
                () -> Check.refuses(Stores.withLines(2), ARGUMENT, LogWeave::dropped, Check.beyond(0, 3)));
    }

    private static void addArchives(Sentences all) {
        all.add("Promise 13", "`line`: the number of the line", BudgetSentencesTest::firstAndLastArchived);
        all.add("Promise 13", "Returns the bytes of the lines of its source that are kept then.",
                BudgetSentencesTest::whatIsKeptThen);
        all.add("Promise 13", "Throws `NoSuchElementException` if there is no such line",
                BudgetSentencesTest::noLineToArchive);
        all.add("Promise 13", "Throws `IllegalStateException` if it is not kept", BudgetSentencesTest::notKept);
        all.add("Promise 14", "`source`: the source, 0 to 3", BudgetSentencesTest::sourcesOfRequests);
        all.add("Promise 14", "`rank`: the least rank, 0 to 4", BudgetSentencesTest::ranksOfRequests);
        all.add("Promise 14", "Returns the number of the request, from 0.", BudgetSentencesTest::numbersOfRequests);
        all.add("Promise 14", "Throws `IllegalArgumentException` if the source or the rank is out of range",
                BudgetSentencesTest::requestsOutOfRange);
        all.add("Promise 14", "Throws `IllegalStateException` if 20 requests were made",
                BudgetSentencesTest::oneRequestTooMany);
        all.add("Promise 15", "`request`: the number of the request", BudgetSentencesTest::firstAndLastRequest);
        all.add("Promise 15", "Returns the number of lines.", BudgetSentencesTest::theNumberOfArchivedLines);
        all.add("Promise 15", "Throws `NoSuchElementException` if there is no such request",
                BudgetSentencesTest::noSuchRequest);
        all.add("Promise 15", "Throws `IllegalStateException` if it is not answered yet",
                BudgetSentencesTest::notAnsweredYet);
        all.add("Promise 15", "Throws `IllegalStateException` if it is not answered yet",
                BudgetSentencesTest::neverAnsweredAtTheLastTick);
    }

    // Budgets

    private static void aBudgetThatIsJustMet() {
        LogWeave store = Stores.withLines(3);
        Check.same("30 of 30 bytes", store.setBudget(0, 30), 0);
        store.pass(1);
        Check.same("as a tick passes", Stores.states(store), "kkk");
        store.setBudget(0, 40);
        Stores.line(store, 0, 0, 10);
        Check.same("as a line comes", Stores.states(store), "kkkk");
        LogWeave none = new LogWeave();
        Check.same("0 of 0 bytes", none.setBudget(0, 0), 0);
        LogWeave dropped = Stores.withLines(3);
        Check.same("one is dropped, and then it is just met", dropped.setBudget(0, 20), 1);
        Check.same("no other one", Stores.states(dropped), "dkk");
    }

    private static void aBudgetThatIsExceededByOne() {
        LogWeave store = Stores.withLines(3);
        Check.same("30 of 29 bytes", store.setBudget(0, 29), 1);
        Stores.line(store, 0, 3, 9);
        Check.same("29 of 29 bytes", Stores.states(store), "dkkk");
        Stores.line(store, 0, 3, 1);
        Check.same("30 of 29 bytes", Stores.states(store), "ddkkk");
        LogWeave one = new LogWeave();
        Stores.line(one, 0, 4, 1);
        Check.same("1 of 0 bytes", one.setBudget(0, 0), 1);
        LogWeave two = Stores.withLines(3);
        Check.same("one is dropped, and it is exceeded by one still", two.setBudget(0, 19), 2);
        LogWeave more = new LogWeave();
        for (int i = 0; i < 101; i++) {
            Stores.line(more, 0, 4, 99);
        }
        Check.same("9999 of 9999 bytes", more.dropped(0), 0);
        Stores.line(more, 0, 0, 1);
        Check.same("10000 of 9999 bytes", more.stateOf(101), 'd');
        Check.same("one is enough", more.dropped(0), 1);
    }

    private static void theLeastRankAndTheLowestNumber() {
        LogWeave store = new LogWeave();
        for (int rank : new int[] {4, 1, 3, 0, 1, 0, 2}) {
            Stores.line(store, 0, rank, 10);
        }
        String[] due = {"kkkdkkk", "kkkdkdk", "kdkdkdk", "kdkdddk", "kdkdddd", "kdddddd", "ddddddd"};
        for (int i = 0; i < due.length; i++) {
            Check.same("one more", store.setBudget(0, 60 - 10 * i), 1);
            Check.same("after " + (i + 1), Stores.states(store), due[i]);
        }
        LogWeave bytes = new LogWeave();
        Stores.line(bytes, 0, 1, 99);
        Stores.line(bytes, 0, 0, 1);
        Check.same("the bytes do not matter for the order", bytes.setBudget(0, 1), 2);
        LogWeave greater = new LogWeave();
        Stores.line(greater, 0, 1, 1);
        Stores.line(greater, 0, 0, 99);
        Check.same("one is enough", greater.setBudget(0, 1), 1);
    }

    private static void guardedLinesAreLeft() {
        LogWeave store = new LogWeave();
        store.addAlert(0, 0, 1, 7, 9, 1, 0);
        store.addLine(0, 0, 1, 7, 1, 10);
        store.addLine(0, 4, 1, 8, 1, 10);
        Check.same("the one that is not guarded, of the greatest rank", store.setBudget(0, 10), 1);
        Check.same("states", Stores.states(store), "kd");
        Check.same("the guarded one is left", store.setBudget(0, 9), 0);
        Check.same("more than the budget", store.kept(0), 10);
        store.addLine(0, 4, 1, 9, 1, 1);
        Check.same("the coming one is dropped", Stores.states(store), "kdd");
        Check.same("when it is guarded no longer", store.pass(1), 1);
        Check.same("states", Stores.states(store), "ddd");
    }

    private static void untilThereIsNoSuchLine() {
        LogWeave store = new LogWeave();
        store.addAlert(0, 3, -1, 0, 9, 50, 0);
        for (int rank : new int[] {3, 2, 4, 0}) {
            Stores.line(store, 0, rank, 99);
        }
        store.archive(3);
        Check.same("the one that is kept and not guarded", store.setBudget(0, 0), 1);
        Check.same("states", Stores.states(store), "kdka");
        Check.same("no such line", store.setBudget(0, 0), 0);
        Check.same("kept", store.kept(0), 198);
        Check.same("no line at all", store.setBudget(1, 0), 0);
        LogWeave most = new LogWeave();
        for (int i = 0; i < 200; i++) {
            Stores.line(most, 0, i % 5, 99);
        }
        Check.same("101 lines are within 9999 bytes", most.kept(0), 9999);
        Check.same("all lines at once", most.setBudget(0, 0), 101);
        Check.same("none is left", most.dropped(0), 200);
    }

    private static void theSourceIsLookedAtThen() {
        LogWeave store = Stores.withLines(2);
        store.setBudget(0, 10);
        Check.same("dropped", Stores.states(store), "dk");
        store.setBudget(0, 9999);
        Check.same("a greater one brings nothing back", Stores.states(store), "dk");
        Stores.line(store, 0, 0, 99);
        Check.same("and holds from now on", Stores.states(store), "dkk");
    }

    private static void sourcesOfBudgets() {
        for (int source : new int[] {0, 3}) {
            LogWeave store = new LogWeave();
            for (int i = 0; i < 4; i++) {
                Stores.line(store, i, 0, 10);
            }
            Check.same("dropped", store.setBudget(source, 9), 1);
            for (int i = 0; i < 4; i++) {
                Check.same("of the source " + i, store.stateOf(i), i == source ? 'd' : 'k');
            }
        }
    }

    private static void edgesOfBudgets() {
        LogWeave store = Stores.withLines(3);
        Check.same("the greatest", store.setBudget(0, 9999), 0);
        Check.same("all are kept", store.kept(0), 30);
        Check.same("the least", store.setBudget(0, 0), 3);
        Check.same("nothing is kept", store.kept(0), 0);
        Stores.line(store, 0, 4, 1);
        Check.same("not a byte", store.stateOf(3), 'd');
        Check.same("the greatest again", store.setBudget(0, 9999), 0);
        Stores.line(store, 0, 4, 99);
        Check.same("a line is kept", store.stateOf(4), 'k');
    }

    private static void theNumberThatABudgetDrops() {
        LogWeave store = Stores.withLines(5);
        Check.same("none", store.setBudget(0, 50), 0);
        Check.same("one", store.setBudget(0, 40), 1);
        Check.same("those of this call alone", store.setBudget(0, 15), 3);
        Check.same("the last one", store.setBudget(0, 0), 1);
        Check.same("none is left", store.setBudget(0, 0), 0);
        LogWeave most = Stores.withLines(200);
        Check.same("all", most.setBudget(0, 0), 200);
    }

    private static void budgetsOutOfRange() {
        LogWeave store = Stores.withLines(2);
        store.setBudget(0, 30);
        Check.refuses(store, ARGUMENT, (s, source) -> s.setBudget(source, 10), Check.beyond(0, 3));
        Check.refuses(store, ARGUMENT, (s, bytes) -> s.setBudget(0, bytes), Check.beyond(0, 9999));
        Check.refuses(store, ARGUMENT, (s, wrong) -> s.setBudget(wrong, wrong), -1, 10000, MIN, MAX);
        Stores.line(store, 0, 4, 10);
        Check.same("the budget is 30 still", store.dropped(0), 0);
        Stores.line(store, 0, 4, 1);
        Check.same("the budget is 30 still", store.dropped(0), 1);
    }

    /** What is asked of a source with one line that is kept and one that was dropped, both of 10 bytes. */
    private static void sourcesOf(Check.Asked asked, int due) {
        for (int source : new int[] {0, 3}) {
            LogWeave store = new LogWeave();
            Stores.line(store, source, 0, 10);
            Stores.line(store, source, 0, 10);
            store.setBudget(source, 10);
            for (int other = 0; other < 4; other++) {
                Check.same("of the source " + other, asked.of(store, other), other == source ? due : 0);
            }
        }
    }

    private static void theBytesThatAreKept() {
        LogWeave store = new LogWeave();
        Check.same("no line", store.kept(0), 0);
        Stores.line(store, 0, 0, 1);
        Check.same("one byte", store.kept(0), 1);
        store.archive(0);
        Check.same("no line that is kept", store.kept(0), 0);
        Stores.line(store, 0, 0, 99);
        store.setBudget(0, 0);
        Check.same("no line that is kept", store.kept(0), 0);
        LogWeave guarded = new LogWeave();
        guarded.addAlert(1, 0, -1, 0, 9, 50, 0);
        for (int i = 0; i < 200; i++) {
            Stores.line(guarded, 1, 0, 99);
        }
        Check.same("the most, twice the greatest budget", guarded.kept(1), 19800);
    }

    private static void theNumberOfDroppedLines() {
        LogWeave store = Stores.withLines(200);
        Check.same("none", store.dropped(0), 0);
        store.setBudget(0, 1990);
        Check.same("one", store.dropped(0), 1);
        store.archive(199);
        Check.same("archived ones are not dropped", store.dropped(0), 1);
        store.setBudget(0, 0);
        Check.same("all but the archived one", store.dropped(0), 199);
        LogWeave most = Stores.withLines(200);
        most.setBudget(0, 0);
        Check.same("all", most.dropped(0), 200);
        Check.same("no line", new LogWeave().dropped(0), 0);
    }

    // Archives

    private static LogWeave withArchived(int source, int count) {
        LogWeave store = new LogWeave();
        for (int i = 0; i < count; i++) {
            Stores.line(store, source, i % 5, 1);
            store.archive(i);
        }
        return store;
    }

    private static void archivedLinesDoNotCount() {
        LogWeave store = Stores.withLines(4);
        store.archive(3);
        Check.same("30 of 30 bytes without it", store.setBudget(0, 30), 0);
        Check.same("30 of 29 bytes without it", store.setBudget(0, 29), 1);
        Check.same("the archived one can't be dropped", store.setBudget(0, 0), 2);
        Check.same("states", Stores.states(store), "ddda");
        LogWeave room = Stores.withLines(2);
        room.setBudget(0, 20);
        room.archive(0);
        Stores.line(room, 0, 0, 10);
        Check.same("there is room for another one", Stores.states(room), "akk");
        Stores.line(room, 0, 0, 1);
        Check.same("but not for two", Stores.states(room), "akdk");
    }

    private static void whatARequestAsksFor() {
        LogWeave store = new LogWeave();
        for (int i = 0; i < 10; i++) {
            Stores.line(store, 2, i % 5, 10);
        }
        Stores.line(store, 1, 4, 10);
        store.archive(10);
        for (int i = 0; i < 7; i++) {
            store.archive(i);
        }
        store.setBudget(2, 10);
        for (int rank = 0; rank < 5; rank++) {
            store.request(2, rank);
        }
        store.pass(4);
        int[] due = {7, 5, 3, 2, 1};
        for (int rank = 0; rank < 5; rank++) {
            Check.same("of the rank " + rank + " at least", store.answer(rank), due[rank]);
        }
    }

    private static void answeredAfter(LogWeave store, int request, int ticks, int due) {
        Stores.passTo(store, store.tick() + ticks - 1);
        Check.same("one tick before " + ticks, Check.answerOf(() -> store.answer(request)), "IllegalStateException");
        store.pass(1);
        Check.same("after " + ticks, Check.answerOf(() -> store.answer(request)), due);
    }

    private static void eachThreeWholeLines() {
        int[] archived = {0, 1, 2, 3, 4, 5, 6, 7, 8, 9, 197, 198, 200};
        int[] ticks = {2, 2, 2, 3, 3, 3, 4, 4, 4, 5, 67, 68, 68};
        for (int i = 0; i < archived.length; i++) {
            LogWeave store = withArchived(0, archived[i]);
            Check.same("the request", store.request(0, 0), 0);
            answeredAfter(store, 0, ticks[i], archived[i]);
            LogWeave later = withArchived(3, archived[i]);
            later.pass(7);
            later.request(3, 0);
            answeredAfter(later, 0, ticks[i], archived[i]);
        }
        LogWeave ranks = withArchived(0, 5);
        ranks.request(0, 4);
        answeredAfter(ranks, 0, 3, 1);
    }

    private static void thoseThatDoNotDelay() {
        LogWeave store = withArchived(1, 2);
        for (int i = 0; i < 3; i++) {
            Stores.line(store, 2, 0, 1);
            store.archive(store.lines() - 1);
            Stores.line(store, 1, 0, 1);
        }
        store.setBudget(1, 1);
        Check.same("kept and dropped ones, and those of another source", Stores.states(store), "aaadadak");
        store.request(1, 0);
        store.archive(7);
        answeredAfter(store, 0, 2, 3);
        store.request(1, 0);
        answeredAfter(store, 1, 3, 3);
    }

    private static void byWhatThereIsThen() {
        LogWeave store = Stores.withLines(4);
        store.request(0, 0);
        store.archive(0);
        store.pass(1);
        store.archive(1);
        store.pass(1);
        Check.same("those that were archived until then", store.answer(0), 2);
        store.archive(2);
        Check.same("not those after it", store.answer(0), 2);
        store.pass(1);
        Check.same("not those after it", store.answer(0), 2);
        LogWeave once = Stores.withLines(1);
        once.request(0, 0);
        once.archive(0);
        once.pass(50);
        Check.same("in one pass of many ticks", once.answer(0), 1);
    }

    // Promises 13 to 15

    private static void firstAndLastArchived() {
        LogWeave store = Stores.withLines(200);
        Check.same("the line 0", store.archive(0), 1990);
        Check.same("the line 199", store.archive(199), 1980);
        Check.same("the line 0", store.stateOf(0), 'a');
        Check.same("the line 1", store.stateOf(1), 'k');
        Check.same("the line 199", store.stateOf(199), 'a');
    }

    private static void whatIsKeptThen() {
        LogWeave store = new LogWeave();
        Stores.line(store, 0, 0, 1);
        Stores.line(store, 0, 0, 99);
        Stores.line(store, 1, 0, 50);
        Check.same("of its source, without it", store.archive(1), 1);
        Check.same("nothing of its source", store.archive(0), 0);
        Check.same("nothing of its source", store.archive(2), 0);
    }

    private static void noLineToArchive() {
        Check.refuses(new LogWeave(), NONE, LogWeave::archive, -1, 0, 1, MIN, MAX);
        Check.refuses(Stores.withLines(1), NONE, LogWeave::archive, -1, 1, 2, MIN, MAX);
        Check.refuses(Stores.withLines(200), NONE, LogWeave::archive, -1, 200, 256, MIN, MAX);
    }

    private static void notKept() {
        LogWeave store = Stores.withLines(3);
        store.archive(1);
        Check.refuses(store, STATE, LogWeave::archive, 1);
        store.setBudget(0, 10);
        Check.same("states", Stores.states(store), "dak");
        Check.refuses(store, STATE, LogWeave::archive, 0, 1);
        store.setBudget(0, 9999);
        store.pass(50);
        Check.refuses(store, STATE, LogWeave::archive, 0, 1);
        Check.same("the one that is kept", store.archive(2), 0);
        Check.refuses(store, STATE, LogWeave::archive, 0, 1, 2);
    }

    private static void sourcesOfRequests() {
        for (int source : new int[] {0, 3}) {
            LogWeave store = withArchived(source, 1);
            store.request(source, 0);
            store.request(3 - source, 0);
            store.pass(2);
            Check.same("of the source " + source, store.answer(0), 1);
            Check.same("of the other one", store.answer(1), 0);
        }
    }

    private static void ranksOfRequests() {
        LogWeave store = withArchived(0, 5);
        store.request(0, 0);
        store.request(0, 4);
        store.request(0, 3);
        store.pass(3);
        Check.same("all ranks", store.answer(0), 5);
        Check.same("the greatest one", store.answer(1), 1);
        Check.same("the one before and it", store.answer(2), 2);
    }

    private static void numbersOfRequests() {
        LogWeave store = new LogWeave();
        Check.same("the first", store.request(3, 4), 0);
        Check.fails(store, "one that is refused", ARGUMENT, () -> store.request(3, 5));
        for (int i = 1; i < 20; i++) {
            Check.same("the next", store.request(0, 0), i);
            store.pass(1);
        }
    }

    private static void requestsOutOfRange() {
        LogWeave store = withArchived(0, 1);
        Check.refuses(store, ARGUMENT, (s, source) -> s.request(source, 0), Check.beyond(0, 3));
        Check.refuses(store, ARGUMENT, (s, rank) -> s.request(0, rank), Check.beyond(0, 4));
        Check.refuses(store, ARGUMENT, (s, wrong) -> s.request(wrong, wrong), -1, 5, MIN, MAX);
        Check.same("no number was taken", store.request(0, 0), 0);
    }

    private static void oneRequestTooMany() {
        LogWeave store = Stores.withRequests(19);
        Check.same("the last", store.request(0, 0), 19);
        Check.fails(store, "one more", STATE, () -> store.request(0, 0));
        Check.fails(store, "one more", STATE, () -> store.request(3, 4));
        store.pass(50);
        Check.same("all are answered", store.answer(19), 0);
        Check.fails(store, "they were made", STATE, () -> store.request(0, 0));
    }

    private static void firstAndLastRequest() {
        LogWeave store = withArchived(3, 1);
        store.request(3, 0);
        for (int i = 1; i < 19; i++) {
            store.request(0, 0);
        }
        Stores.line(store, 1, 0, 1);
        Stores.line(store, 1, 0, 1);
        store.archive(1);
        store.archive(2);
        store.request(1, 0);
        store.pass(2);
        Check.same("the first", store.answer(0), 1);
        Check.same("one between", store.answer(18), 0);
        Check.same("the last", store.answer(19), 2);
    }

    private static void theNumberOfArchivedLines() {
        LogWeave none = new LogWeave();
        none.request(0, 0);
        none.pass(2);
        Check.same("no line at all", none.answer(0), 0);
        LogWeave kept = Stores.withLines(3);
        kept.request(0, 0);
        kept.pass(2);
        Check.same("no archived line", kept.answer(0), 0);
        LogWeave most = withArchived(2, 200);
        most.request(2, 0);
        most.pass(50);
        most.pass(18);
        Check.same("all lines", most.answer(0), 200);
    }

    private static void noSuchRequest() {
        Check.refuses(new LogWeave(), NONE, LogWeave::answer, -1, 0, 1, MIN, MAX);
        LogWeave one = Stores.withRequests(1);
        Check.refuses(one, NONE, LogWeave::answer, -1, 1, 2, MIN, MAX);
        one.pass(2);
        Check.refuses(one, NONE, LogWeave::answer, -1, 1, 2, MIN, MAX);
        Check.refuses(Stores.withRequests(20), NONE, LogWeave::answer, -1, 20, 256, MIN, MAX);
    }

    private static void notAnsweredYet() {
        LogWeave store = withArchived(0, 3);
        store.request(0, 0);
        store.request(1, 0);
        Check.refuses(store, STATE, LogWeave::answer, 0, 1);
        store.pass(1);
        Check.refuses(store, STATE, LogWeave::answer, 0, 1);
        store.pass(1);
        Check.same("at its tick", store.answer(1), 0);
        Check.refuses(store, STATE, LogWeave::answer, 0);
        store.pass(1);
        Check.same("at its tick", store.answer(0), 3);
        store.pass(50);
        Check.same("long after it", store.answer(0), 3);
    }

    private static void neverAnsweredAtTheLastTick() {
        LogWeave store = Stores.atTick(4998);
        store.request(0, 0);
        store.pass(1);
        store.request(0, 0);
        Check.refuses(store, STATE, LogWeave::answer, 0, 1);
        store.pass(1);
        Check.same("at the tick 5000", store.answer(0), 0);
        store.request(0, 0);
        Check.fails(store, "no tick is left", STATE, () -> store.pass(1));
        Check.refuses(store, STATE, LogWeave::answer, 1, 2);
    }
}
