/** A test of its own for each sentence of the document about alerts and looking at them: promises 16 to 20. */
public final class AlertSentencesTest {
    private static final Class<IllegalArgumentException> ARGUMENT = IllegalArgumentException.class;
    private static final Class<IllegalStateException> STATE = IllegalStateException.class;
    private static final Class<IndexOutOfBoundsException> INDEX = IndexOutOfBoundsException.class;
    private static final int MIN = Integer.MIN_VALUE;
    private static final int MAX = Integer.MAX_VALUE;

    /** The parameters of addAlert: source, rank, place, word, goal, window, hold. */
    private static final int[] LEAST = {0, 0, -1, 0, 1, 1, 0};
    private static final int[] GREATEST = {3, 4, 2, 99, 9, 50, 20};
    private static final int[] BETWEEN = {1, 2, 1, 50, 5, 25, 10};

    private AlertSentencesTest() {
    }

    public static void main(String[] args) {
        all().run();
    }

    static Sentences all() {
        Sentences all = new Sentences();
        addTerms(all);
        addLooking(all);
        addAdding(all);
        addAsking(all);
        return all;
    }

    private static void addTerms(Sentences all) {
        all.add("Terms", "What alerts count is kept, and found anew from all lines.",
                AlertSentencesTest::keptAndFoundAnew);
        all.add("Alerts", "At most 6 alerts exist, numbered from 0.", AlertSentencesTest::atMost6Alerts);
        all.add("Alerts", "An alert has a source, a least rank, a place and a word, or no place, a goal from 1 to 9, a"
                + " window from 1 to 50 ticks, and a hold from 0 to 20 ticks.", AlertSentencesTest::whatAnAlertHas);
        String counting = "It counts the lines of the source that are not dropped, have the least rank at least, have"
                + " the word at the place, if it has a place, and came in the window: a line that came at the tick t is"
                + " in a window of w ticks from t to t + w - 1.";
        all.add("Alerts", counting, AlertSentencesTest::linesThatAreNotDropped);
        all.add("Alerts", counting, AlertSentencesTest::theLeastRankAtLeast);
        all.add("Alerts", counting, AlertSentencesTest::theWordAtThePlace);
        all.add("Alerts", counting, AlertSentencesTest::fromTToTPlusWMinus1);
        all.add("Alerts", counting, AlertSentencesTest::aWindowThatIsLookedAtLater);
        all.add("Alerts", "An alert is quiet, 'q', fires, 'f', or is held, 'h'.",
                AlertSentencesTest::theStatesOfAnAlert);
        all.add("Clarifications", "Without a place, a word that is out of range is refused as well.",
                AlertSentencesTest::wordsWithoutAPlace);
    }

    private static void addLooking(Sentences all) {
        String reached = "If the count is at least the goal: one that is quiet fires, which is a new firing; one that"
                + " is held fires again, which is the same firing as before; and the firing stands on all lines that"
                + " are counted, besides those on which it stands already.";
        all.add("Looking at an alert", reached, AlertSentencesTest::aGoalThatIsJustMet);
        all.add("Looking at an alert", reached, AlertSentencesTest::aHeldOneFiresAgain);
        all.add("Looking at an alert", reached, AlertSentencesTest::besidesThoseOnWhichItStands);
        String missed = "If the count is less than the goal, one that fires is held for the ticks of its hold, or is"
                + " quiet if this is 0.";
        all.add("Looking at an alert", missed, AlertSentencesTest::aGoalThatIsMissedByOne);
        all.add("Looking at an alert", missed, AlertSentencesTest::aHoldOf0);
        all.add("Looking at an alert", missed, AlertSentencesTest::quietAndHeldOnesStay);
        all.add("Coming lines and alerts", "When a line comes, it is read by patterns, then all alerts are looked at,"
                + " by their numbers, then its source.", AlertSentencesTest::aComingLine);
        all.add("Coming lines and alerts", "When an alert is added, it is looked at.",
                AlertSentencesTest::anAddedAlert);
    }

    private static void addAdding(Sentences all) {
        all.add("Promise 16", "Adds a quiet alert, which is looked at then.", AlertSentencesTest::aQuietAlert);
        all.add("Promise 16", "`source`: the source, 0 to 3", AlertSentencesTest::sourcesOfAlerts);
        all.add("Promise 16", "`rank`: the least rank, 0 to 4", AlertSentencesTest::ranksOfAlerts);
        all.add("Promise 16", "`place`: the place, or -1 for none", AlertSentencesTest::placesOfAlerts);
        all.add("Promise 16", "`word`: the word, 0 to 99, which does not matter without a place",
                AlertSentencesTest::wordsOfAlerts);
        all.add("Promise 16", "`goal`: the goal", AlertSentencesTest::goalsOfAlerts);
        all.add("Promise 16", "`window`: the window", AlertSentencesTest::windowsOfAlerts);
        all.add("Promise 16", "`hold`: the hold", AlertSentencesTest::holdsOfAlerts);
        all.add("Promise 16", "Returns the number of the alert.", AlertSentencesTest::numbersOfAlerts);
        all.add("Promise 16", "Throws `IllegalArgumentException` if a number is out of range",
                AlertSentencesTest::alertsOutOfRange);
        all.add("Promise 16", "Throws `IllegalStateException` if there are 6 alerts",
                AlertSentencesTest::oneAlertTooMany);
    }

    private static void addAsking(Sentences all) {
        String alert = "`alert`: the number of the alert";
        String none = "Throws `IndexOutOfBoundsException` if there is no such alert";
        all.add("Promise 17", alert, () -> firstAndLastAlert(LogWeave::alertState, 'f', 'h'));
        all.add("Promise 17", "Returns 'q', 'f' or 'h'.", AlertSentencesTest::qAndFAndH);
        all.add("Promise 17", none, () -> noSuchAlert(LogWeave::alertState));
        all.add("Promise 18", alert, () -> firstAndLastAlert(LogWeave::counted, 3, 1));
        all.add("Promise 18", "Returns the number of lines.", () -> numberOfCounted(LogWeave::counted));
        all.add("Promise 18", none, () -> noSuchAlert(LogWeave::counted));
        all.add("Promise 19", alert, () -> firstAndLastAlert(LogWeave::countedAnew, 3, 1));
        all.add("Promise 19", "Returns the number of lines.", () -> numberOfCounted(LogWeave::countedAnew));
        all.add("Promise 19", none, () -> noSuchAlert(LogWeave::countedAnew));
        all.add("Promise 20", alert, () -> firstAndLastAlert(LogWeave::heldFor, 0, 7));
        all.add("Promise 20", "Returns the number of ticks, 0 if it is not held.", AlertSentencesTest::ticksOfAHold);
        all.add("Promise 20", none, () -> noSuchAlert(LogWeave::heldFor));
    }

    private static int add(LogWeave store, int[] n) {
        return store.addAlert(n[0], n[1], n[2], n[3], n[4], n[5], n[6]);
    }

    private static void alert(LogWeave store, String when, char state, int counted, int heldFor) {
        Check.same(when + ", the state", store.alertState(0), state);
        Check.same(when + ", counted", store.counted(0), counted);
        Check.same(when + ", counted anew", store.countedAnew(0), counted);
        Check.same(when + ", held for", store.heldFor(0), heldFor);
    }

    private static void lines(LogWeave store, int count) {
        for (int i = 0; i < count; i++) {
            Stores.line(store, 0, 2, 10);
        }
    }

    /** One alert of the source 0, of all ranks and without a place. */
    private static LogWeave withAlert(int goal, int window, int hold) {
        LogWeave store = new LogWeave();
        store.addAlert(0, 0, -1, 0, goal, window, hold);
        return store;
    }

    // Terms

    private static void keptAndFoundAnew() {
        LogWeave store = withAlert(2, 3, 1);
        int[] due = {1, 2, 3, 3, 3};
        for (int count : due) {
            lines(store, 1);
            Check.same("kept", store.counted(0), count);
            Check.same("anew", store.countedAnew(0), count);
            store.archive(store.lines() - 1);
            store.setBudget(0, 0);
            store.pass(1);
            Check.same("kept, a tick later", store.counted(0), Math.min(count, 2));
            Check.same("anew, a tick later", store.countedAnew(0), Math.min(count, 2));
        }
        store.pass(50);
        store.release(0);
        Check.same("kept, of none", store.counted(0), 0);
        Check.same("anew, of none", store.countedAnew(0), 0);
    }

    private static void atMost6Alerts() {
        LogWeave store = new LogWeave();
        for (int i = 0; i < 6; i++) {
            Check.same("the number", add(store, i % 2 == 0 ? LEAST : GREATEST), i);
        }
        Check.fails(store, "the alert 6", STATE, () -> add(store, BETWEEN));
        Check.same("the last one", store.alertState(5), 'q');
    }

    private static void whatAnAlertHas() {
        for (int[] numbers : new int[][] {LEAST, GREATEST}) {
            Check.same("all at the edge", add(new LogWeave(), numbers), 0);
            for (int i = 0; i < numbers.length; i++) {
                int[] edge = BETWEEN.clone();
                edge[i] = numbers[i];
                Check.same("the number " + i + " is " + edge[i],
                        Check.answerOf(() -> add(new LogWeave(), edge)), 0);
            }
        }
    }

    private static void linesThatAreNotDropped() {
        LogWeave store = Stores.withLines(4);
        store.setBudget(0, 30);
        store.archive(1);
        store.addAlert(0, 0, -1, 0, 9, 5, 0);
        alert(store, "archived and kept ones", 'q', 3, 0);
        Stores.line(store, 1, 2, 10);
        alert(store, "none of another source", 'q', 3, 0);
        Check.same("counted ones can't be dropped", store.setBudget(0, 0), 0);
        store.archive(2);
        alert(store, "one that is archived stays", 'q', 3, 0);
        store.pass(4);
        alert(store, "at the last tick", 'q', 3, 0);
        Check.same("one is kept and dropped then", store.pass(1), 1);
        alert(store, "one tick later", 'q', 0, 0);
    }

    private static void theLeastRankAtLeast() {
        for (int least = 0; least <= 4; least++) {
            LogWeave store = new LogWeave();
            store.addAlert(0, least, -1, 0, 9, 5, 0);
            for (int rank = 0; rank <= 4; rank++) {
                Stores.line(store, 0, rank, 10);
                Check.same("of the rank " + rank + " with " + least, store.counted(0), Math.max(0, rank - least + 1));
                Check.same("it guards it", store.isGuarded(rank), rank >= least);
            }
        }
    }

    private static void theWordAtThePlace() {
        for (int place = 0; place < 3; place++) {
            for (int word : new int[] {0, 50, 99}) {
                LogWeave store = new LogWeave();
                store.addAlert(0, 0, place, word, 9, 5, 0);
                int[] words = Stores.words(word, word, word);
                words[place] = word == 0 ? 1 : word - 1;
                store.addLine(0, 0, words[0], words[1], words[2], 1);
                Check.same("the word at the other places", store.counted(0), 0);
                words = Stores.words(7, 7, 7);
                words[place] = word;
                store.addLine(0, 0, words[0], words[1], words[2], 1);
                Check.same("the word at the place", store.counted(0), 1);
                store.addLine(0, 0, word, word, word, 1);
                Check.same("the word at all places", store.counted(0), 2);
                store.addAlert(0, 0, -1, word, 9, 5, 0);
                Check.same("without a place", store.counted(1), 3);
            }
        }
    }

    private static void fromTToTPlusWMinus1() {
        for (int window : new int[] {1, 2, 3, 49, 50}) {
            for (int t : new int[] {0, 1, 13}) {
                LogWeave store = withAlert(9, window, 0);
                Stores.passTo(store, t);
                alert(store, "before it comes", 'q', 0, 0);
                lines(store, 1);
                for (int tick = t; tick <= t + window - 1; tick++) {
                    Stores.passTo(store, tick);
                    alert(store, "in the window", 'q', 1, 0);
                    Check.same("in the window, guarded", store.isGuarded(0), true);
                }
                store.pass(1);
                alert(store, "one tick after it", 'q', 0, 0);
                Check.same("one tick after it, guarded", store.isGuarded(0), false);
            }
        }
        LogWeave atOnce = withAlert(9, 3, 0);
        lines(atOnce, 2);
        atOnce.pass(1);
        lines(atOnce, 1);
        atOnce.pass(1);
        alert(atOnce, "both ticks", 'q', 3, 0);
        atOnce.pass(1);
        alert(atOnce, "the first two have left", 'q', 1, 0);
        atOnce.pass(1);
        alert(atOnce, "all have left", 'q', 0, 0);
    }

    /** An alert that is added later counts the lines that came before it. */
    private static void aWindowThatIsLookedAtLater() {
        for (int window : new int[] {1, 2, 50}) {
            LogWeave inside = Stores.withLines(1);
            Stores.passTo(inside, window - 1);
            inside.addAlert(0, 0, -1, 0, 9, window, 0);
            alert(inside, "at its last tick", 'q', 1, 0);
            inside.pass(1);
            alert(inside, "it has left", 'q', 0, 0);
            LogWeave outside = Stores.withLines(1);
            Stores.passTo(outside, window);
            outside.addAlert(0, 0, -1, 0, 9, window, 0);
            alert(outside, "it had left", 'q', 0, 0);
            outside.pass(1);
            alert(outside, "it had left", 'q', 0, 0);
        }
        LogWeave last = Stores.atTick(4999);
        last.addAlert(0, 0, -1, 0, 9, 50, 0);
        lines(last, 1);
        last.pass(1);
        alert(last, "a window that goes beyond the tick 5000", 'q', 1, 0);
    }

    private static void theStatesOfAnAlert() {
        LogWeave store = withAlert(1, 1, 1);
        alert(store, "at first", 'q', 0, 0);
        lines(store, 1);
        alert(store, "a line", 'f', 1, 0);
        store.pass(1);
        alert(store, "it has left", 'h', 0, 1);
        store.pass(1);
        alert(store, "the hold is over", 'q', 0, 0);
    }

    private static void wordsWithoutAPlace() {
        LogWeave store = Stores.withLines(1);
        Check.refuses(store, ARGUMENT, (s, word) -> s.addAlert(0, 0, -1, word, 1, 1, 0), Check.beyond(0, 99));
        Check.same("a word in range", store.addAlert(0, 0, -1, 99, 1, 1, 0), 0);
        alert(store, "which does not matter", 'f', 1, 0);
    }

    // Looking at an alert

    private static void aGoalThatIsJustMet() {
        for (int goal : new int[] {1, 2, 8, 9}) {
            LogWeave store = withAlert(goal, 50, 3);
            lines(store, goal - 1);
            alert(store, "one too few", 'q', goal - 1, 0);
            Check.same("no firing", store.firings(), 0);
            store.pass(2);
            lines(store, 1);
            alert(store, "just met", 'f', goal, 0);
            Check.same("a new firing", store.firings(), 1);
            Check.same("of it", store.alertOf(0), 0);
            Check.same("now", store.firedAt(0), 2);
            Check.same("on all", store.ground(0), goal);
            lines(store, 1);
            alert(store, "more than met", 'f', goal + 1, 0);
            Check.same("no new firing", store.firings(), 1);
        }
    }

    private static void aHeldOneFiresAgain() {
        LogWeave store = withAlert(2, 1, 2);
        lines(store, 2);
        store.pass(2);
        alert(store, "at the last tick of its hold", 'h', 0, 1);
        lines(store, 1);
        alert(store, "one line too few", 'h', 1, 1);
        lines(store, 1);
        alert(store, "just met", 'f', 2, 0);
        Check.same("the same firing", store.firings(), 1);
        Check.same("which began before", store.firedAt(0), 0);
        Check.same("on all", store.ground(0), 4);
        store.pass(1);
        alert(store, "held anew, for the whole hold", 'h', 0, 2);
        store.pass(2);
        alert(store, "quiet", 'q', 0, 0);
        lines(store, 2);
        Check.same("a new firing", store.firings(), 2);
        Check.same("began now", store.firedAt(1), 5);
        Check.same("on its own lines", store.ground(1), 2);
    }

    private static void besidesThoseOnWhichItStands() {
        LogWeave store = withAlert(2, 2, 2);
        lines(store, 2);
        store.pass(1);
        Check.same("two", store.ground(0), 2);
        lines(store, 1);
        Check.same("and the third, of three that are counted", store.ground(0), 3);
        store.pass(1);
        alert(store, "the third alone is counted", 'h', 1, 2);
        Check.same("on those that have left too", store.ground(0), 3);
        lines(store, 1);
        alert(store, "it fires again", 'f', 2, 0);
        for (int line = 0; line < 4; line++) {
            Check.same("on the line " + line, store.standsOn(0, line), true);
        }
        Check.same("each one once", store.ground(0), 4);
        LogWeave late = withAlert(3, 3, 0);
        lines(late, 1);
        late.pass(1);
        lines(late, 1);
        late.pass(1);
        lines(late, 1);
        Check.same("on those that came before it too", late.ground(0), 3);
        late.archive(0);
        Stores.line(late, 1, 4, 1);
        Check.same("an archived one stays, none of another source comes", late.ground(0), 3);
    }

    private static void aGoalThatIsMissedByOne() {
        for (int goal : new int[] {1, 2, 9}) {
            for (int hold : new int[] {1, 20}) {
                LogWeave store = withAlert(goal, 2, hold);
                lines(store, 1);
                store.pass(1);
                lines(store, goal - 1);
                alert(store, "just met", 'f', goal, 0);
                store.pass(1);
                alert(store, "missed by one", 'h', goal - 1, hold);
                for (int left = hold - 1; left > 0; left--) {
                    store.pass(1);
                    alert(store, "held still", 'h', 0, left);
                }
                store.pass(1);
                alert(store, "held no longer", 'q', 0, 0);
            }
        }
        LogWeave met = withAlert(2, 2, 5);
        lines(met, 1);
        met.pass(1);
        lines(met, 2);
        met.pass(1);
        alert(met, "one has left, the goal is just met", 'f', 2, 0);
    }

    private static void aHoldOf0() {
        LogWeave store = withAlert(2, 2, 0);
        lines(store, 1);
        store.pass(1);
        lines(store, 1);
        alert(store, "just met", 'f', 2, 0);
        store.pass(1);
        alert(store, "quiet at once", 'q', 1, 0);
        lines(store, 1);
        alert(store, "just met", 'f', 2, 0);
        Check.same("a new firing", store.firings(), 2);
        Check.same("on both that are counted", store.ground(1), 2);
        Check.same("on one of them as the first one", store.standsOn(0, 1) && store.standsOn(1, 1), true);
    }

    private static void quietAndHeldOnesStay() {
        LogWeave store = withAlert(3, 3, 4);
        lines(store, 2);
        alert(store, "quiet", 'q', 2, 0);
        store.pass(1);
        alert(store, "quiet", 'q', 2, 0);
        lines(store, 1);
        store.pass(2);
        alert(store, "held", 'h', 1, 4);
        Stores.line(store, 0, 0, 10);
        alert(store, "held, not longer than before", 'h', 2, 4);
        store.pass(1);
        alert(store, "held, and a tick less", 'h', 1, 3);
    }

    /** A store whose source 0 has a budget of 0 and four alerts. */
    private static void aComingLine() {
        LogWeave store = new LogWeave();
        store.setBudget(0, 0);
        store.addAlert(0, 3, -1, 0, 2, 50, 0);
        store.addAlert(1, 0, -1, 0, 1, 50, 0);
        store.addAlert(0, 4, -1, 0, 1, 50, 0);
        store.addAlert(0, 0, 2, 9, 1, 50, 0);
        store.addLine(0, 3, 1, 1, 1, 10);
        Check.same("counted before its source is looked at", store.stateOf(0), 'k');
        store.addLine(0, 2, 1, 1, 2, 10);
        Check.same("counted by none", store.stateOf(1), 'd');
        Check.same("but read by patterns", store.patternOf(1), 0);
        Check.same("whose field it has made", store.wordAt(0, 2), -1);
        store.addLine(0, 4, 1, 1, 9, 10);
        Check.same("three alerts of four fire", store.firings(), 3);
        Check.same("by their numbers", store.alertOf(0), 0);
        Check.same("by their numbers", store.alertOf(1), 2);
        Check.same("by their numbers", store.alertOf(2), 3);
        Check.same("on the line before too", store.standsOn(0, 0), true);
        Check.same("not on the dropped one", store.ground(0), 2);
        Check.same("kept", Stores.states(store), "kdk");
    }

    private static void anAddedAlert() {
        LogWeave store = Stores.withLines(2);
        store.addAlert(0, 0, -1, 0, 3, 1, 0);
        alert(store, "the goal is missed by one", 'q', 2, 0);
        store.addAlert(0, 0, -1, 0, 2, 1, 0);
        Check.same("the goal is just met", store.alertState(1), 'f');
        Check.same("a firing", store.firings(), 1);
        Check.same("of it", store.alertOf(0), 1);
        Check.same("on both", store.ground(0), 2);
        Check.same("guarded", store.setBudget(0, 0), 0);
        Check.same("the other alert gets no firing by it", store.alertState(0), 'q');
    }

    // Promise 16

    private static void aQuietAlert() {
        LogWeave store = new LogWeave();
        add(store, BETWEEN);
        alert(store, "no line", 'q', 0, 0);
        LogWeave fires = Stores.withLines(9);
        fires.addAlert(0, 2, 0, 1, 9, 1, 20);
        alert(fires, "nine lines", 'f', 9, 0);
        Check.same("which is a new firing", fires.firings(), 1);
    }

    private static void sourcesOfAlerts() {
        for (int source : new int[] {0, 3}) {
            LogWeave store = new LogWeave();
            for (int other = 0; other < 4; other++) {
                Stores.line(store, other, 0, 1);
            }
            store.addAlert(source, 0, -1, 0, 2, 50, 0);
            alert(store, "its own line", 'q', 1, 0);
            Stores.line(store, 3 - source, 0, 1);
            alert(store, "a line of another source", 'q', 1, 0);
            Stores.line(store, source, 0, 1);
            alert(store, "another line of its own", 'f', 2, 0);
        }
    }

    private static void ranksOfAlerts() {
        LogWeave store = new LogWeave();
        store.addAlert(0, 0, -1, 0, 9, 50, 0);
        store.addAlert(0, 4, -1, 0, 9, 50, 0);
        for (int rank = 0; rank <= 4; rank++) {
            Stores.line(store, 0, rank, 1);
            Check.same("the least rank 0", store.counted(0), rank + 1);
            Check.same("the least rank 4", store.counted(1), rank == 4 ? 1 : 0);
        }
    }

    private static void placesOfAlerts() {
        LogWeave store = new LogWeave();
        for (int place = -1; place <= 2; place++) {
            store.addAlert(0, 0, place, 5, 9, 50, 0);
        }
        store.addLine(0, 0, 5, 6, 7, 1);
        store.addLine(0, 0, 7, 5, 5, 1);
        store.addLine(0, 0, 6, 7, 5, 1);
        int[] due = {3, 1, 1, 2};
        for (int place = -1; place <= 2; place++) {
            Check.same("the place " + place, store.counted(place + 1), due[place + 1]);
        }
    }

    private static void wordsOfAlerts() {
        LogWeave store = Stores.withWords(Stores.words(0, 50, 99));
        store.addAlert(0, 0, 0, 0, 9, 50, 0);
        store.addAlert(0, 0, 2, 99, 9, 50, 0);
        store.addAlert(0, 0, 2, 98, 9, 50, 0);
        store.addAlert(0, 0, -1, 0, 9, 50, 0);
        store.addAlert(0, 0, -1, 99, 9, 50, 0);
        store.addAlert(0, 0, -1, 7, 9, 50, 0);
        int[] due = {1, 1, 0, 1, 1, 1};
        for (int i = 0; i < due.length; i++) {
            Check.same("the alert " + i, store.counted(i), due[i]);
        }
    }

    private static void goalsOfAlerts() {
        LogWeave store = new LogWeave();
        store.addAlert(0, 0, -1, 0, 1, 50, 0);
        store.addAlert(0, 0, -1, 0, 9, 50, 0);
        for (int line = 1; line <= 9; line++) {
            lines(store, 1);
            Check.same("the goal 1", store.alertState(0), 'f');
            Check.same("the goal 9", store.alertState(1), line < 9 ? 'q' : 'f');
        }
    }

    private static void windowsOfAlerts() {
        LogWeave store = withAlert(1, 1, 0);
        store.addAlert(0, 0, -1, 0, 1, 50, 0);
        lines(store, 1);
        store.pass(1);
        Check.same("the window 1", store.counted(0), 0);
        Check.same("the window 50", store.counted(1), 1);
        store.pass(48);
        Check.same("at 49", store.counted(1), 1);
        store.pass(1);
        Check.same("at 50", store.counted(1), 0);
    }

    private static void holdsOfAlerts() {
        LogWeave store = withAlert(1, 1, 0);
        store.addAlert(0, 0, -1, 0, 1, 1, 20);
        lines(store, 1);
        store.pass(1);
        Check.same("the hold 0", store.alertState(0), 'q');
        Check.same("the hold 20", store.heldFor(1), 20);
        store.pass(19);
        Check.same("at its last tick", store.alertState(1), 'h');
        store.pass(1);
        Check.same("after it", store.alertState(1), 'q');
    }

    private static void numbersOfAlerts() {
        LogWeave store = new LogWeave();
        Check.same("the first", add(store, GREATEST), 0);
        Check.fails(store, "one that is refused", ARGUMENT, () -> store.addAlert(0, 0, 0, 0, 0, 1, 0));
        for (int i = 1; i < 6; i++) {
            Check.same("the next", add(store, LEAST), i);
        }
    }

    private static void alertsOutOfRange() {
        LogWeave store = Stores.withLines(2);
        Check.refusesEach(store, ARGUMENT, AlertSentencesTest::add, LEAST, GREATEST, BETWEEN);
        Check.same("no number was taken", add(store, BETWEEN), 0);
    }

    private static void oneAlertTooMany() {
        LogWeave store = Stores.withAlerts(5);
        Check.same("the last", add(store, BETWEEN), 5);
        for (int[] numbers : new int[][] {LEAST, BETWEEN, GREATEST}) {
            Check.fails(store, "one more", STATE, () -> add(store, numbers));
        }
        store.pass(50);
        Check.fails(store, "quiet ones exist", STATE, () -> add(store, LEAST));
    }

    // Promises 17 to 20

    /** What is asked of the alert 0, which fires on three lines, and of the alert 5, which is held on one line. */
    private static void firstAndLastAlert(Check.Asked asked, Object first, Object last) {
        LogWeave store = new LogWeave();
        store.addAlert(0, 0, -1, 0, 2, 50, 7);
        for (int i = 1; i < 5; i++) {
            store.addAlert(1, 0, -1, 0, 9, 1, 0);
        }
        store.addAlert(0, 0, -1, 0, 2, 2, 7);
        lines(store, 2);
        store.pass(1);
        lines(store, 1);
        store.pass(1);
        Check.same("of the alert 0", asked.of(store, 0), first);
        Check.same("of the alert 5", asked.of(store, 5), last);
    }

    private static void qAndFAndH() {
        LogWeave store = withAlert(1, 1, 1);
        store.addAlert(0, 0, -1, 0, 2, 2, 0);
        store.addAlert(0, 0, -1, 0, 1, 2, 0);
        lines(store, 1);
        store.pass(1);
        Check.same("held", store.alertState(0), 'h');
        Check.same("quiet", store.alertState(1), 'q');
        Check.same("fires", store.alertState(2), 'f');
    }

    private static void numberOfCounted(Check.Asked asked) {
        LogWeave store = withAlert(9, 50, 0);
        Check.same("none", asked.of(store, 0), 0);
        for (int count = 1; count <= 200; count++) {
            lines(store, 1);
            Check.same("lines", asked.of(store, 0), count);
        }
        store.pass(49);
        Check.same("all at the last tick", asked.of(store, 0), 200);
        store.pass(1);
        Check.same("all have left", asked.of(store, 0), 0);
    }

    private static void ticksOfAHold() {
        LogWeave store = withAlert(1, 1, 20);
        Check.same("quiet", store.heldFor(0), 0);
        lines(store, 1);
        Check.same("fires", store.heldFor(0), 0);
        for (int left = 20; left >= 1; left--) {
            store.pass(1);
            Check.same("held", store.heldFor(0), left);
        }
        store.pass(1);
        Check.same("quiet", store.heldFor(0), 0);
        lines(store, 1);
        store.pass(2);
        Check.same("held", store.heldFor(0), 19);
        lines(store, 1);
        Check.same("fires again", store.heldFor(0), 0);
    }

    private static void noSuchAlert(Check.Asked asked) {
        Check.refuses(new LogWeave(), INDEX, asked, -1, 0, 1, MIN, MAX);
        Check.refuses(Stores.withAlerts(1), INDEX, asked, -1, 1, 2, MIN, MAX);
        Check.refuses(Stores.withAlerts(6), INDEX, asked, -1, 6, 7, MIN, MAX);
    }
}
