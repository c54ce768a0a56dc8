import java.util.ArrayList;
import java.util.HashSet;
import java.util.List;
import java.util.NoSuchElementException;
import java.util.Set;

/** The document once more, as plainly as its words go: nothing is kept that can be found anew. */
final class PlainStore {
    private static final class Line {
        int source;
        int rank;
        int[] words;
        int bytes;
        int came;
        char state = 'k';
        int pattern;
    }

    private static final class Pattern {
        int source;
        int[] words;
        boolean merged;
    }

    private static final class Alert {
        int source;
        int rank;
        int place;
        int word;
        int goal;
        int window;
        int hold;
        char state = 'q';
        int held;
        int firing = -1;
    }

    private static final class Firing {
        int alert;
        int tick;
        boolean released;
        Set<Integer> lines = new HashSet<>();
    }

    private static final class Request {
        int source;
        int rank;
        int due;
        int answer = -1;
    }

    private final List<Line> lines = new ArrayList<>();
    private final List<Pattern> patterns = new ArrayList<>();
    private final List<Alert> alerts = new ArrayList<>();
    private final List<Firing> firings = new ArrayList<>();
    private final List<Request> requests = new ArrayList<>();
    private final int[] budgets = {9999, 9999, 9999, 9999};
    private int tick;

    private static void range(int number, int least, int greatest) {
        if (number < least || number > greatest) {
            throw new IllegalArgumentException();
        }
    }

    private static void state(boolean bad) {
        if (bad) {
            throw new IllegalStateException();
        }
    }

    private static <T> T element(List<T> list, int number) {
        if (number < 0 || number >= list.size()) {
            throw new NoSuchElementException();
        }
        return list.get(number);
    }

    int addLine(int source, int rank, int first, int second, int third, int bytes) {
        range(source, 0, 3);
        range(rank, 0, 4);
        range(first, 0, 99);
        range(second, 0, 99);
        range(third, 0, 99);
        range(bytes, 1, 99);
        state(lines.size() == 200);
        Line line = new Line();
        line.source = source;
        line.rank = rank;
        line.words = new int[] {first, second, third};
        line.bytes = bytes;
        line.came = tick;
        line.pattern = -1;
        for (int i = patterns.size() - 1; i >= 0; i--) {
            if (!patterns.get(i).merged && fits(line, patterns.get(i))) {
                line.pattern = i;
            }
        }
        if (line.pattern < 0) {
            Pattern pattern = new Pattern();
            pattern.source = source;
            pattern.words = line.words.clone();
            line.pattern = patterns.size();
            patterns.add(pattern);
        }
        lines.add(line);
        while (mergeOnePair(source)) {
            continue;
        }
        for (Alert alert : alerts) {
            look(alert);
        }
        lookAt(source);
        return lines.size() - 1;
    }

    private static boolean fits(Line line, Pattern pattern) {
        boolean good = line.source == pattern.source;
        for (int i = 0; i < 3; i++) {
            good &= pattern.words[i] == -1 || pattern.words[i] == line.words[i];
        }
        return good;
    }

    private boolean mergeOnePair(int source) {
        for (int i = 0; i < patterns.size(); i++) {
            for (int j = i + 1; j < patterns.size(); j++) {
                Pattern a = patterns.get(i);
                Pattern b = patterns.get(j);
                if (a.source != source || b.source != source || a.merged || b.merged) {
                    continue;
                }
                int same = 0;
                int other = -1;
                for (int place = 0; place < 3; place++) {
                    if (a.words[place] == b.words[place]) {
                        same++;
                    } else {
                        other = place;
                    }
                }
                if (same == 2) {
                    a.words[other] = -1;
                    b.merged = true;
                    for (Line line : lines) {
                        line.pattern = line.pattern == j ? i : line.pattern;
                    }
                    return true;
                }
            }
        }
        return false;
    }

    private boolean counts(Alert alert, Line line) {
        return line.state != 'd' && line.source == alert.source && line.rank >= alert.rank
                && (alert.place == -1 || line.words[alert.place] == alert.word)
                && tick >= line.came && tick <= line.came + alert.window - 1;
    }

    private int count(Alert alert) {
        int count = 0;
        for (Line line : lines) {
            count += counts(alert, line) ? 1 : 0;
        }
        return count;
    }

    private void look(Alert alert) {
        if (count(alert) >= alert.goal) {
            if (alert.state == 'q') {
                Firing firing = new Firing();
                firing.alert = alerts.indexOf(alert);
                firing.tick = tick;
                alert.firing = firings.size();
                firings.add(firing);
            }
            alert.state = 'f';
            alert.held = 0;
            for (int i = 0; i < lines.size(); i++) {
                if (counts(alert, lines.get(i))) {
                    firings.get(alert.firing).lines.add(i);
                }
            }
        } else if (alert.state == 'f') {
            alert.held = alert.hold;
            alert.state = alert.hold == 0 ? 'q' : 'h';
        }
    }

    private boolean guarded(int number) {
        Line line = lines.get(number);
        boolean guarded = false;
        for (Alert alert : alerts) {
            guarded |= counts(alert, line);
        }
        for (Firing firing : firings) {
            guarded |= !firing.released && firing.lines.contains(number);
        }
        return guarded;
    }

    private int keptBytes(int source) {
        int sum = 0;
        for (Line line : lines) {
            sum += line.source == source && line.state == 'k' ? line.bytes : 0;
        }
        return sum;
    }

    private int lookAt(int source) {
        int count = 0;
        while (keptBytes(source) > budgets[source]) {
            Line least = null;
            for (int rank = 4; rank >= 0; rank--) {
                for (int i = lines.size() - 1; i >= 0; i--) {
                    Line line = lines.get(i);
                    if (line.source == source && line.state == 'k' && line.rank == rank && !guarded(i)) {
                        least = line;
                    }
                }
            }
            if (least == null) {
                break;
            }
            least.state = 'd';
            count++;
        }
        return count;
    }

    private int lookAtAll() {
        return lookAt(0) + lookAt(1) + lookAt(2) + lookAt(3);
    }

    int lines() {
        return lines.size();
    }

    char stateOf(int line) {
        return element(lines, line).state;
    }

    int patternOf(int line) {
        return element(lines, line).pattern;
    }

    int patterns(int source) {
        range(source, 0, 3);
        int count = 0;
        for (Pattern pattern : patterns) {
            count += pattern.source == source && !pattern.merged ? 1 : 0;
        }
        return count;
    }

    private Pattern unmerged(int number) {
        Pattern pattern = element(patterns, number);
        if (pattern.merged) {
            throw new NoSuchElementException();
        }
        return pattern;
    }

    int wordAt(int pattern, int place) {
        Pattern found = unmerged(pattern);
        range(place, 0, 2);
        return found.words[place];
    }

    int linesOf(int pattern) {
        unmerged(pattern);
        int count = 0;
        for (Line line : lines) {
            count += line.pattern == pattern ? 1 : 0;
        }
        return count;
    }

    int values(int pattern, int place) {
        unmerged(pattern);
        range(place, 0, 2);
        Set<Integer> words = new HashSet<>();
        for (Line line : lines) {
            if (line.pattern == pattern) {
                words.add(line.words[place]);
            }
        }
        return words.size();
    }

    int setBudget(int source, int bytes) {
        range(source, 0, 3);
        range(bytes, 0, 9999);
        budgets[source] = bytes;
        return lookAt(source);
    }

    int kept(int source) {
        range(source, 0, 3);
        return keptBytes(source);
    }

    int dropped(int source) {
        range(source, 0, 3);
        int count = 0;
        for (Line line : lines) {
            count += line.source == source && line.state == 'd' ? 1 : 0;
        }
        return count;
    }

    int archive(int line) {
        Line found = element(lines, line);
        state(found.state != 'k');
        found.state = 'a';
        return keptBytes(found.source);
    }

    private int archived(int source, int rank) {
        int count = 0;
        for (Line line : lines) {
            count += line.source == source && line.rank >= rank && line.state == 'a' ? 1 : 0;
        }
        return count;
    }

    int request(int source, int rank) {
        range(source, 0, 3);
        range(rank, 0, 4);
        state(requests.size() == 20);
        Request request = new Request();
        request.source = source;
        request.rank = rank;
        request.due = tick + 2 + archived(source, 0) / 3;
        requests.add(request);
        return requests.size() - 1;
    }

    int answer(int request) {
        Request found = element(requests, request);
        state(found.answer == -1);
        return found.answer;
    }

    int addAlert(int source, int rank, int place, int word, int goal, int window, int hold) {
        range(source, 0, 3);
        range(rank, 0, 4);
        range(place, -1, 2);
        range(word, 0, 99);
        range(goal, 1, 9);
        range(window, 1, 50);
        range(hold, 0, 20);
        state(alerts.size() == 6);
        Alert alert = new Alert();
        alert.source = source;
        alert.rank = rank;
        alert.place = place;
        alert.word = word;
        alert.goal = goal;
        alert.window = window;
        alert.hold = hold;
        alerts.add(alert);
        look(alert);
        return alerts.size() - 1;
    }

    private Alert alert(int number) {
        if (number < 0 || number >= alerts.size()) {
            throw new IndexOutOfBoundsException();
        }
        return alerts.get(number);
    }

    char alertState(int alert) {
        return alert(alert).state;
    }

    int counted(int alert) {
        return count(alert(alert));
    }

    int heldFor(int alert) {
        return alert(alert).held;
    }

    int firings() {
        return firings.size();
    }

    int alertOf(int firing) {
        return element(firings, firing).alert;
    }

    int firedAt(int firing) {
        return element(firings, firing).tick;
    }

    int ground(int firing) {
        Firing found = element(firings, firing);
        return found.released ? 0 : found.lines.size();
    }

    boolean standsOn(int firing, int line) {
        Firing found = element(firings, firing);
        element(lines, line);
        return !found.released && found.lines.contains(line);
    }

    int release(int firing) {
        Firing found = element(firings, firing);
        state(found.released);
        Alert alert = alerts.get(found.alert);
        if (alert.state != 'q' && alert.firing == firing) {
            throw new UnsupportedOperationException();
        }
        found.released = true;
        return lookAtAll();
    }

    boolean isGuarded(int line) {
        return element(lines, line).state != 'd' && guarded(line);
    }

    int pass(int ticks) {
        range(ticks, 1, 50);
        state(tick + ticks > 5000);
        int count = 0;
        for (int i = 0; i < ticks; i++) {
            tick++;
            for (Alert alert : alerts) {
                if (alert.state == 'h' && --alert.held == 0) {
                    alert.state = 'q';
                }
                look(alert);
            }
            count += lookAtAll();
            for (Request request : requests) {
                if (request.due == tick) {
                    request.answer = archived(request.source, request.rank);
                }
            }
        }
        return count;
    }

    int tick() {
        return tick;
    }

    long bytes() {
        long sum = 0;
        for (Line line : lines) {
            sum += line.bytes;
        }
        return sum;
    }

    float droppedShare() {
        if (lines.isEmpty()) {
            throw new ArithmeticException();
        }
        return (float) (dropped(0) + dropped(1) + dropped(2) + dropped(3)) / (float) lines.size();
    }

    double meanRank() {
        int sum = 0;
        int count = 0;
        for (Line line : lines) {
            sum += line.state == 'k' ? line.rank : 0;
            count += line.state == 'k' ? 1 : 0;
        }
        if (count == 0) {
            throw new ArithmeticException();
        }
        return (double) sum / (double) count;
    }
}
