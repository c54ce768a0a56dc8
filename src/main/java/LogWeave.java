import java.util.ArrayList;
import java.util.NoSuchElementException;

/** A store for the lines of logs, with patterns, budgets, alerts, firings and archives. */
public final class LogWeave {
    private static final int SOURCES = 4;
    private static final int TOP_RANK = 4;
    private static final int PLACES = 3;
    private static final int NO_PLACE = -1;
    private static final int TOP_WORD = 99;
    private static final int FIELD = -1;
    private static final int TOP_BYTES = 99;
    private static final int TOP_BUDGET = 9999;
    private static final int MOST_LINES = 200;
    private static final int MOST_ALERTS = 6;
    private static final int TOP_GOAL = 9;
    private static final int TOP_WINDOW = 50;
    private static final int TOP_HOLD = 20;
    private static final int MOST_REQUESTS = 20;
    private static final int MOST_TICKS_AT_ONCE = 50;
    private static final int TOP_TICK = 5000;
    private static final int SHORTEST_WAIT = 2;
    private static final int ARCHIVED_LINES_FOR_A_TICK = 3;
    private static final int BITS_IN_A_LONG = 64;

    private static final char KEPT = 'k';
    private static final char ARCHIVED = 'a';
    private static final char DROPPED = 'd';
    private static final char QUIET = 'q';
    private static final char FIRES = 'f';
    private static final char HELD = 'h';

    private final ArrayList<Line> lineList = new ArrayList<>();
    private final ArrayList<Pattern> patternList = new ArrayList<>();
    private final ArrayList<Alert> alertList = new ArrayList<>();
    private final ArrayList<Firing> firingList = new ArrayList<>();
    private final ArrayList<Request> requestList = new ArrayList<>();
    private final int[] budgets = {TOP_BUDGET, TOP_BUDGET, TOP_BUDGET, TOP_BUDGET};
    private int now;

    public LogWeave() {
    }

    // Lines and patterns

    public int addLine(int source, int rank, int first, int second, int third, int bytes)
            throws IllegalArgumentException, IllegalStateException {
        if (!isSource(source) || !isRank(rank) || !isWord(first) || !isWord(second) || !isWord(third)
                || !isWithin(bytes, 1, TOP_BYTES)) {
            throw new IllegalArgumentException("a number of the line is out of range");
        }
        if (lineList.size() >= MOST_LINES) {
            throw new IllegalStateException("all lines have come");
        }
        int number = lineList.size();
        Words words = new Words(first, second, third);
        Pattern known = patternFor(source, words);
        Pattern pattern = known == null ? learn(source, words) : known;
        Line line = new Line(source, rank, words, bytes, now, pattern);
        lineList.add(line);
        if (known == null) {
            mergeFrom(pattern);
        }
        showToAlerts(line);
        lookAtSource(source);
        return number;
    }

    public int lines() {
        return lineList.size();
    }

    public char stateOf(int line) throws NoSuchElementException {
        return lineNumbered(line).state;
    }

    public int patternOf(int line) throws NoSuchElementException {
        return lineNumbered(line).pattern.number;
    }

    public int patterns(int source) throws IllegalArgumentException {
        checkSource(source);
        int count = 0;
        for (int i = 0; i < patternList.size(); i++) {
            Pattern pattern = patternList.get(i);
            if (pattern.source == source && !pattern.merged) {
                count++;
            }
        }
        return count;
    }

    public int wordAt(int pattern, int place) throws NoSuchElementException, IllegalArgumentException {
        Pattern found = patternNumbered(pattern);
        checkPlace(place);
        return found.words.at(place);
    }

    public int linesOf(int pattern) throws NoSuchElementException {
        Pattern found = patternNumbered(pattern);
        int count = 0;
        for (int i = 0; i < lineList.size(); i++) {
            if (lineList.get(i).pattern == found) {
                count++;
            }
        }
        return count;
    }

    public int values(int pattern, int place) throws NoSuchElementException, IllegalArgumentException {
        Pattern found = patternNumbered(pattern);
        checkPlace(place);
        long low = 0;
        long high = 0;
        for (int i = 0; i < lineList.size(); i++) {
            Line line = lineList.get(i);
            if (line.pattern == found) {
                int word = line.words.at(place);
                if (word < BITS_IN_A_LONG) {
                    low |= 1L << word;
                } else {
                    high |= 1L << (word - BITS_IN_A_LONG);
                }
            }
        }
        return Long.bitCount(low) + Long.bitCount(high);
    }

    // Budgets and archives

    public int setBudget(int source, int bytes) throws IllegalArgumentException {
        checkSource(source);
        if (!isWithin(bytes, 0, TOP_BUDGET)) {
            throw new IllegalArgumentException("the budget is out of range");
        }
        budgets[source] = bytes;
        return lookAtSource(source);
    }

    public int kept(int source) throws IllegalArgumentException {
        checkSource(source);
        return keptBytes(source);
    }

    public int dropped(int source) throws IllegalArgumentException {
        checkSource(source);
        int count = 0;
        for (int i = 0; i < lineList.size(); i++) {
            Line line = lineList.get(i);
            if (line.source == source && line.state == DROPPED) {
                count++;
            }
        }
        return count;
    }

    public int archive(int line) throws NoSuchElementException, IllegalStateException {
        Line found = lineNumbered(line);
        if (found.state != KEPT) {
            throw new IllegalStateException("the line is not kept");
        }
        found.state = ARCHIVED;
        return keptBytes(found.source);
    }

    public int request(int source, int rank) throws IllegalArgumentException, IllegalStateException {
        if (!isSource(source) || !isRank(rank)) {
            throw new IllegalArgumentException("the source or the rank is out of range");
        }
        if (requestList.size() >= MOST_REQUESTS) {
            throw new IllegalStateException("all requests were made");
        }
        int archived = archivedLines(new Filter(source, 0, NO_PLACE, 0));
        int due = now + SHORTEST_WAIT + archived / ARCHIVED_LINES_FOR_A_TICK;
        requestList.add(new Request(new Filter(source, rank, NO_PLACE, 0), due));
        return requestList.size() - 1;
    }

    public int answer(int request) throws NoSuchElementException, IllegalStateException {
        if (request < 0 || request >= requestList.size()) {
            throw new NoSuchElementException("there is no such request");
        }
        Request found = requestList.get(request);
        if (!found.answered) {
            throw new IllegalStateException("the request is not answered yet");
        }
        return found.lines;
    }

    // Alerts and firings

    public int addAlert(int source, int rank, int place, int word, int goal, int window, int hold)
            throws IllegalArgumentException, IllegalStateException {
        if (!isSource(source) || !isRank(rank) || !isWithin(place, NO_PLACE, PLACES - 1) || !isWord(word)
                || !isWithin(goal, 1, TOP_GOAL) || !isWithin(window, 1, TOP_WINDOW)
                || !isWithin(hold, 0, TOP_HOLD)) {
            throw new IllegalArgumentException("a number of the alert is out of range");
        }
        if (alertList.size() >= MOST_ALERTS) {
            throw new IllegalStateException("all alerts exist");
        }
        int number = alertList.size();
        Alert alert = new Alert(number, new Filter(source, rank, place, word), goal, window, hold);
        alertList.add(alert);
        for (int i = 0; i < lineList.size(); i++) {
            countIfDue(alert, lineList.get(i));
        }
        lookAtAlert(alert);
        return number;
    }

    public char alertState(int alert) throws IndexOutOfBoundsException {
        return alertNumbered(alert).state;
    }

    public int counted(int alert) throws IndexOutOfBoundsException {
        return alertNumbered(alert).count;
    }

    public int countedAnew(int alert) throws IndexOutOfBoundsException {
        return countFromAllLines(alertNumbered(alert));
    }

    public int heldFor(int alert) throws IndexOutOfBoundsException {
        return alertNumbered(alert).heldTicks;
    }

    public int firings() {
        return firingList.size();
    }

    public int alertOf(int firing) throws NoSuchElementException {
        return firingNumbered(firing).alert.number;
    }

    public int firedAt(int firing) throws NoSuchElementException {
        return firingNumbered(firing).began;
    }

    public int ground(int firing) throws NoSuchElementException {
        return firingNumbered(firing).size;
    }

    public boolean standsOn(int firing, int line) throws NoSuchElementException {
        Firing found = firingNumbered(firing);
        lineNumbered(line);
        return found.hasLine(line);
    }

    public int release(int firing) throws NoSuchElementException, IllegalStateException, UnsupportedOperationException {
        Firing found = firingNumbered(firing);
        if (found.released) {
            throw new IllegalStateException("the firing was released");
        }
        if (found.alert.state != QUIET && found.alert.firing == found) {
            throw new UnsupportedOperationException("the alert of the firing fires or is held by it");
        }
        found.released = true;
        giveUpLines(found);
        return lookAtAllSources();
    }

    public boolean isGuarded(int line) throws NoSuchElementException {
        return lineNumbered(line).guards > 0;
    }

    // Ticks and figures

    public int pass(int ticks) throws IllegalArgumentException, IllegalStateException {
        if (!isWithin(ticks, 1, MOST_TICKS_AT_ONCE)) {
            throw new IllegalArgumentException("the number of ticks is out of range");
        }
        if (now + ticks > TOP_TICK) {
            throw new IllegalStateException("the tick would be too great");
        }
        int count = 0;
        for (int i = 0; i < ticks; i++) {
            count += passOneTick();
        }
        return count;
    }

    public int tick() {
        return now;
    }

    public long bytes() {
        long sum = 0;
        for (int i = 0; i < lineList.size(); i++) {
            sum += lineList.get(i).bytes;
        }
        return sum;
    }

    public float droppedShare() throws ArithmeticException {
        int all = lineList.size();
        if (all == 0) {
            throw new ArithmeticException("no lines have come");
        }
        int count = 0;
        for (int i = 0; i < all; i++) {
            if (lineList.get(i).state == DROPPED) {
                count++;
            }
        }
        return (float) count / (float) all;
    }

    public double meanRank() throws ArithmeticException {
        int count = 0;
        int sum = 0;
        for (int i = 0; i < lineList.size(); i++) {
            Line line = lineList.get(i);
            if (line.state == KEPT) {
                count++;
                sum += line.rank;
            }
        }
        if (count == 0) {
            throw new ArithmeticException("no line is kept");
        }
        return (double) sum / (double) count;
    }

    public boolean isSound() {
        return countsAreSound() && firingsAreSound() && patternsAreSound();
    }

    // Ranges and numbers

    private static boolean isWithin(int number, int least, int greatest) {
        return number >= least && number <= greatest;
    }

    private static boolean isSource(int source) {
        return isWithin(source, 0, SOURCES - 1);
    }

    private static boolean isRank(int rank) {
        return isWithin(rank, 0, TOP_RANK);
    }

    private static boolean isWord(int word) {
        return isWithin(word, 0, TOP_WORD);
    }

    private static void checkSource(int source) {
        if (!isSource(source)) {
            throw new IllegalArgumentException("the source is out of range");
        }
    }

    private static void checkPlace(int place) {
        if (!isWithin(place, 0, PLACES - 1)) {
            throw new IllegalArgumentException("the place is out of range");
        }
    }

    private Line lineNumbered(int number) {
        if (number < 0 || number >= lineList.size()) {
            throw new NoSuchElementException("there is no such line");
        }
        return lineList.get(number);
    }

    private Pattern patternNumbered(int number) {
        if (number < 0 || number >= patternList.size()) {
            throw new NoSuchElementException("there is no such pattern");
        }
        Pattern pattern = patternList.get(number);
        if (pattern.merged) {
            throw new NoSuchElementException("the pattern was merged into another one");
        }
        return pattern;
    }

    private Alert alertNumbered(int number) {
        if (number < 0 || number >= alertList.size()) {
            throw new IndexOutOfBoundsException("there is no such alert");
        }
        return alertList.get(number);
    }

    private Firing firingNumbered(int number) {
        if (number < 0 || number >= firingList.size()) {
            throw new NoSuchElementException("there is no such firing");
        }
        return firingList.get(number);
    }

    // How lines are read by patterns

    private Pattern patternFor(int source, Words words) {
        for (int i = 0; i < patternList.size(); i++) {
            Pattern pattern = patternList.get(i);
            if (!pattern.merged && pattern.suits(source, words)) {
                return pattern;
            }
        }
        return null;
    }

    private Pattern learn(int source, Words words) {
        Words own = new Words(words.first, words.second, words.third);
        Pattern pattern = new Pattern(patternList.size(), source, own);
        patternList.add(pattern);
        return pattern;
    }

    // Before a pattern is learned no two can be merged, so each pair that can be has the changed pattern in it, and
    // the pair that is due is that with its lowest partner.
    private void mergeFrom(Pattern learned) {
        Pattern changed = learned;
        for (int i = 0; i < patternList.size(); i++) {
            Pattern partner = partnerOf(changed);
            if (partner == null) {
                return;
            }
            if (partner.number < changed.number) {
                merge(partner, changed);
                changed = partner;
            } else {
                merge(changed, partner);
            }
        }
    }

    private Pattern partnerOf(Pattern pattern) {
        for (int i = 0; i < patternList.size(); i++) {
            Pattern other = patternList.get(i);
            if (!other.merged && other.source == pattern.source && other.words.differences(pattern.words) == 1) {
                return other;
            }
        }
        return null;
    }

    private void merge(Pattern lower, Pattern higher) {
        for (int place = 0; place < PLACES; place++) {
            if (lower.words.at(place) != higher.words.at(place)) {
                lower.words.put(place, FIELD);
            }
        }
        higher.merged = true;
        for (int i = 0; i < lineList.size(); i++) {
            Line line = lineList.get(i);
            if (line.pattern == higher) {
                line.pattern = lower;
            }
        }
    }

    // How alerts count lines and fire

    private int countFromAllLines(Alert alert) {
        int count = 0;
        for (int i = 0; i < lineList.size(); i++) {
            if (alert.counts(lineList.get(i), now)) {
                count++;
            }
        }
        return count;
    }

    private void showToAlerts(Line line) {
        for (int i = 0; i < alertList.size(); i++) {
            Alert alert = alertList.get(i);
            countIfDue(alert, line);
            lookAtAlert(alert);
        }
    }

    private void countIfDue(Alert alert, Line line) {
        if (alert.counts(line, now)) {
            alert.count++;
            line.guards++;
        }
    }

    private void lookAtAlert(Alert alert) {
        if (alert.count >= alert.goal) {
            if (alert.state == QUIET || alert.firing == null) {
                alert.firing = new Firing(alert, now);
                firingList.add(alert.firing);
            }
            alert.state = FIRES;
            alert.heldTicks = 0;
            standOnCounted(alert.firing);
        } else if (alert.state == FIRES) {
            alert.state = alert.hold > 0 ? HELD : QUIET;
            alert.heldTicks = alert.hold;
        }
    }

    // Lines come in the order of the ticks: before one that has left the window all have.
    private void standOnCounted(Firing firing) {
        Alert alert = firing.alert;
        for (int i = lineList.size() - 1; i >= 0; i--) {
            Line line = lineList.get(i);
            if (!line.cameWithin(alert.window, now)) {
                return;
            }
            if (alert.counts(line, now) && !firing.hasLine(i)) {
                firing.putLine(i);
                line.guards++;
            }
        }
    }

    private void giveUpLines(Firing firing) {
        for (int i = 0; i < lineList.size(); i++) {
            if (firing.hasLine(i)) {
                lineList.get(i).guards--;
            }
        }
        firing.clearLines();
    }

    // How budgets are kept

    private int keptBytes(int source) {
        int sum = 0;
        for (int i = 0; i < lineList.size(); i++) {
            Line line = lineList.get(i);
            if (line.source == source && line.state == KEPT) {
                sum += line.bytes;
            }
        }
        return sum;
    }

    private int lookAtAllSources() {
        int count = 0;
        for (int source = 0; source < SOURCES; source++) {
            count += lookAtSource(source);
        }
        return count;
    }

    private int lookAtSource(int source) {
        if (source < 0 || source >= budgets.length) {
            return 0;
        }
        int tooMany = keptBytes(source) - budgets[source];
        int count = 0;
        while (tooMany > 0 && count < MOST_LINES) {
            Line line = nextToDrop(source);
            if (line == null) {
                return count;
            }
            line.state = DROPPED;
            tooMany -= line.bytes;
            count++;
        }
        return count;
    }

    private Line nextToDrop(int source) {
        Line found = null;
        for (int i = 0; i < lineList.size(); i++) {
            Line line = lineList.get(i);
            if (line.source == source && line.state == KEPT && line.guards == 0
                    && (found == null || line.rank < found.rank)) {
                found = line;
            }
        }
        return found;
    }

    // How a tick passes

    private int passOneTick() {
        now++;
        for (int i = 0; i < alertList.size(); i++) {
            Alert alert = alertList.get(i);
            forgetLeavers(alert);
            alert.shortenHold();
            lookAtAlert(alert);
        }
        int count = lookAtAllSources();
        answerRequests();
        return count;
    }

    // A line that an alert counts can't be dropped, so each one that leaves the window undropped was counted.
    private void forgetLeavers(Alert alert) {
        int leaving = now - alert.window;
        for (int i = lineList.size() - 1; i >= 0; i--) {
            Line line = lineList.get(i);
            if (line.came < leaving) {
                return;
            }
            if (line.came == leaving && line.state != DROPPED && alert.filter.takes(line)) {
                alert.count--;
                line.guards--;
            }
        }
    }

    private void answerRequests() {
        for (int i = 0; i < requestList.size(); i++) {
            Request request = requestList.get(i);
            if (!request.answered && request.due <= now) {
                request.answered = true;
                request.lines = archivedLines(request.filter);
            }
        }
    }

    private int archivedLines(Filter filter) {
        int count = 0;
        for (int i = 0; i < lineList.size(); i++) {
            Line line = lineList.get(i);
            if (line.state == ARCHIVED && filter.takes(line)) {
                count++;
            }
        }
        return count;
    }

    // Whether all is sound

    private boolean countsAreSound() {
        for (int i = 0; i < alertList.size(); i++) {
            Alert alert = alertList.get(i);
            if (alert.count != countFromAllLines(alert)) {
                return false;
            }
        }
        return true;
    }

    private boolean firingsAreSound() {
        for (int i = 0; i < lineList.size(); i++) {
            if (lineList.get(i).state == DROPPED && someFiringHas(i)) {
                return false;
            }
        }
        return true;
    }

    private boolean someFiringHas(int line) {
        for (int i = 0; i < firingList.size(); i++) {
            if (firingList.get(i).hasLine(line)) {
                return true;
            }
        }
        return false;
    }

    private boolean patternsAreSound() {
        for (int i = 0; i < lineList.size(); i++) {
            Line line = lineList.get(i);
            if (line.pattern.merged || !line.pattern.suits(line.source, line.words)) {
                return false;
            }
        }
        return true;
    }

    /** The words, or fields, at the three places. */
    private static final class Words {
        private int first;
        private int second;
        private int third;

        private Words(int first, int second, int third) {
            this.first = first;
            this.second = second;
            this.third = third;
        }

        private int at(int place) {
            if (place == 0) {
                return first;
            }
            return place == 1 ? second : third;
        }

        private void put(int place, int word) {
            if (place == 0) {
                first = word;
            } else if (place == 1) {
                second = word;
            } else {
                third = word;
            }
        }

        private int differences(Words other) {
            int count = 0;
            for (int place = 0; place < PLACES; place++) {
                if (at(place) != other.at(place)) {
                    count++;
                }
            }
            return count;
        }
    }

    private static final class Pattern {
        private final int number;
        private final int source;
        private final Words words;
        private boolean merged;

        private Pattern(int number, int source, Words words) {
            this.number = number;
            this.source = source;
            this.words = words;
        }

        private boolean suits(int ofSource, Words ofLine) {
            if (ofSource != source) {
                return false;
            }
            for (int place = 0; place < PLACES; place++) {
                if (words.at(place) != FIELD && words.at(place) != ofLine.at(place)) {
                    return false;
                }
            }
            return true;
        }
    }

    private static final class Line {
        private final int source;
        private final int rank;
        private final Words words;
        private final int bytes;
        private final int came;
        private Pattern pattern;
        private char state = KEPT;
        /** How many alerts count it and how many firings stand on it: kept, as asking them all is dear. */
        private int guards;

        private Line(int source, int rank, Words words, int bytes, int came, Pattern pattern) {
            this.source = source;
            this.rank = rank;
            this.words = words;
            this.bytes = bytes;
            this.came = came;
            this.pattern = pattern;
        }

        private boolean cameWithin(int window, int now) {
            return now - came < window;
        }
    }

    /** Which lines an alert or a request asks for. */
    private static final class Filter {
        private final int source;
        private final int leastRank;
        private final int place;
        private final int word;

        private Filter(int source, int leastRank, int place, int word) {
            this.source = source;
            this.leastRank = leastRank;
            this.place = place;
            this.word = word;
        }

        private boolean takes(Line line) {
            return line.source == source && line.rank >= leastRank
                    && (place == NO_PLACE || line.words.at(place) == word);
        }
    }

    private static final class Alert {
        private final int number;
        private final Filter filter;
        private final int goal;
        private final int window;
        private final int hold;
        private char state = QUIET;
        private int count;
        private int heldTicks;
        /** The newest one, or null before the first one. */
        private Firing firing;

        private Alert(int number, Filter filter, int goal, int window, int hold) {
            this.number = number;
            this.filter = filter;
            this.goal = goal;
            this.window = window;
            this.hold = hold;
        }

        private boolean counts(Line line, int now) {
            return line.state != DROPPED && line.cameWithin(window, now) && filter.takes(line);
        }

        private void shortenHold() {
            if (state != HELD) {
                return;
            }
            heldTicks--;
            if (heldTicks <= 0) {
                heldTicks = 0;
                state = QUIET;
            }
        }
    }

    private static final class Firing {
        private final Alert alert;
        private final int began;
        private boolean released;
        private int size;
        /** A bit for each line: there may be 1200 firings, too many for an element a line. */
        private final long[] onLines = new long[(MOST_LINES + BITS_IN_A_LONG - 1) / BITS_IN_A_LONG];

        private Firing(Alert alert, int began) {
            this.alert = alert;
            this.began = began;
        }

        private boolean hasLine(int line) {
            if (line < 0 || line / BITS_IN_A_LONG >= onLines.length) {
                return false;
            }
            return (onLines[line / BITS_IN_A_LONG] >> (line % BITS_IN_A_LONG) & 1L) == 1L;
        }

        private void putLine(int line) {
            if (line < 0 || line / BITS_IN_A_LONG >= onLines.length || hasLine(line)) {
                return;
            }
            onLines[line / BITS_IN_A_LONG] |= 1L << (line % BITS_IN_A_LONG);
            size++;
        }

        private void clearLines() {
            for (int i = 0; i < onLines.length; i++) {
                onLines[i] = 0;
            }
            size = 0;
        }
    }

    private static final class Request {
        private final Filter filter;
        private final int due;
        private boolean answered;
        private int lines;

        private Request(Filter filter, int due) {
            this.filter = filter;
            this.due = due;
        }
    }
}
