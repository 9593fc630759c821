import java.util.ArrayList;
import java.util.HashMap;
import java.util.HashSet;
import java.util.List;
import java.util.Map;
import java.util.NoSuchElementException;
import java.util.Set;
import java.util.TreeMap;

/**
 * The document again, written with the library's maps and lists and as near to its words as can be,
 * to hold the program against. It keeps no trunk: all values are found from the merges.
 */
final class PlainRoom {
    private static final class Vote {
        final boolean isFor;
        final Map<Integer, Integer> covers;

        Vote(boolean isFor, Map<Integer, Integer> covers) {
            this.isFor = isFor;
            this.covers = covers;
        }
    }

    private static final class Change {
        final int author;
        char state = 'o';
        boolean failed;
        final Map<Integer, Integer> edits = new TreeMap<>();
        final Set<Integer> clashes = new HashSet<>();
        final Map<Integer, Vote> votes = new HashMap<>();

        Change(int author) {
            this.author = author;
        }

        boolean touches(int directory) {
            return edits.keySet().stream().anyMatch(place -> place / 16 == directory);
        }

        boolean meets(Change other) {
            return edits.keySet().stream().anyMatch(other.edits::containsKey);
        }
    }

    private static final class Test {
        final int first;
        final int second;
        final int limit;
        boolean dropped;

        Test(int first, int second, int limit) {
            this.first = first;
            this.second = second;
            this.limit = limit;
        }
    }

    private final List<Change> changes = new ArrayList<>();
    private final List<Change> queue = new ArrayList<>();
    private final List<Change> merges = new ArrayList<>();
    private final List<Test> tests = new ArrayList<>();
    private final Map<String, Boolean> cells = new HashMap<>();
    private final int[] owner = {0, 0, 0, 0};
    private final int[] standIn = {1, 1, 1, 1};
    private final Set<Integer> away = new HashSet<>();
    private final Set<Integer> frozen = new HashSet<>();
    private int builds;
    private long taken;

    private static boolean out(int x, int size) {
        return x < 0 || x >= size;
    }

    private Change change(int n) {
        if (out(n, changes.size())) {
            throw new NoSuchElementException();
        }
        return changes.get(n);
    }

    private static void directory(int d) {
        if (out(d, 4)) {
            throw new IndexOutOfBoundsException();
        }
    }

    private static int place(int file, int span) {
        if (out(file, 16) || out(span, 4)) {
            throw new IndexOutOfBoundsException();
        }
        return file * 4 + span;
    }

    private static void person(int p) {
        if (out(p, 6)) {
            throw new IllegalArgumentException();
        }
    }

    private static void state(boolean holds) {
        if (!holds) {
            throw new IllegalStateException();
        }
    }

    int setOwner(int d, int o, int s) {
        directory(d);
        if (out(o, 6) || out(s, 6) || o == s) {
            throw new IllegalArgumentException();
        }
        int before = owner[d];
        owner[d] = o;
        standIn[d] = s;
        return before;
    }

    boolean setAway(int p, boolean isAway) {
        person(p);
        return isAway ? !away.add(p) : away.remove(p);
    }

    int open(int author) {
        person(author);
        state(changes.size() < 16);
        changes.add(new Change(author));
        return changes.size() - 1;
    }

    int edit(int n, int file, int span, int value) {
        Change c = change(n);
        int place = place(file, span);
        if (out(value, 100)) {
            throw new IllegalArgumentException();
        }
        state(c.state == 'o');
        c.edits.put(place, value);
        return c.edits.size();
    }

    int take(int n, int file, int span) {
        Change c = change(n);
        int place = place(file, span);
        state(c.state == 'o' && c.edits.containsKey(place));
        c.edits.remove(place);
        c.clashes.remove(place);
        return c.edits.size();
    }

    int close(int n) {
        Change c = change(n);
        state(c.state == 'o');
        c.state = 'x';
        return c.edits.size();
    }

    int vote(int n, int p, boolean isFor) {
        Change c = change(n);
        person(p);
        if (p == c.author) {
            throw new IllegalArgumentException();
        }
        state(c.state == 'o');
        c.votes.put(p, new Vote(isFor, isFor ? new HashMap<>(c.edits) : new HashMap<>()));
        return c.votes.get(p).covers.size();
    }

    private Integer askedOrNull(Change c, int d) {
        int p = owner[d];
        if (away.contains(p) || p == c.author) {
            p = standIn[d];
            if (p == c.author) {
                return null;
            }
        }
        return p;
    }

    char verdict(int n, int d) {
        Change c = change(n);
        directory(d);
        if (!c.touches(d)) {
            return '-';
        }
        Integer p = askedOrNull(c, d);
        if (p == null) {
            return 'f';
        }
        Vote vote = c.votes.get(p);
        if (vote == null) {
            return '?';
        }
        if (!vote.isFor) {
            return 'n';
        }
        for (Map.Entry<Integer, Integer> e : c.edits.entrySet()) {
            if (e.getKey() / 16 == d && !e.getValue().equals(vote.covers.get(e.getKey()))) {
                return 's';
            }
        }
        return 'y';
    }

    int asked(int n, int d) {
        Change c = change(n);
        directory(d);
        Integer p = askedOrNull(c, d);
        if (p == null) {
            throw new NoSuchElementException();
        }
        return p;
    }

    int missing(int n) {
        change(n);
        int count = 0;
        for (int d = 0; d < 4; d++) {
            if ("?ns".indexOf(verdict(n, d)) >= 0) {
                count++;
            }
        }
        return count;
    }

    int queue(int n) {
        Change c = change(n);
        state(c.state == 'o' && !c.edits.isEmpty() && c.clashes.isEmpty());
        if (missing(n) != 0) {
            throw new UnsupportedOperationException();
        }
        c.state = 'q';
        queue.add(c);
        return queue.size();
    }

    int unqueue(int n) {
        Change c = change(n);
        state(c.state == 'q');
        leave(c);
        return queue.size();
    }

    private void leave(Change c) {
        queue.remove(c);
        c.state = 'o';
    }

    int queueAt(int i) {
        return changes.indexOf(queue.get(index(i, queue.size())));
    }

    private static int index(int i, int size) {
        if (out(i, size)) {
            throw new IndexOutOfBoundsException();
        }
        return i;
    }

    int step() {
        List<Change> batch = new ArrayList<>();
        for (Change c : queue) {
            boolean stays = frozen.stream().anyMatch(c::touches) || batch.stream().anyMatch(c::meets);
            if (!stays && batch.size() < 4) {
                batch.add(c);
            }
        }
        if (batch.isEmpty()) {
            throw new NoSuchElementException();
        }
        int before = merges.size();
        together(batch);
        return merges.size() - before;
    }

    private void together(List<Change> batch) {
        List<Change> with = new ArrayList<>(merges);
        with.addAll(batch);
        if (build(with)) {
            for (Change c : batch) {
                mergeOne(c);
            }
        } else if (batch.size() == 1) {
            leave(batch.get(0));
            batch.get(0).failed = true;
        } else {
            int half = batch.size() / 2;
            together(new ArrayList<>(batch.subList(0, half)));
            together(new ArrayList<>(batch.subList(half, batch.size())));
        }
    }

    private void mergeOne(Change c) {
        queue.remove(c);
        merges.add(c);
        c.state = 'm';
        c.failed = false;
        for (Change other : changes) {
            if (other != c && other.meets(c) && (other.state == 'o' || other.state == 'q')) {
                for (int place : c.edits.keySet()) {
                    if (other.edits.containsKey(place)) {
                        other.clashes.add(place);
                    }
                }
                leave(other);
            }
        }
    }

    private static int valueFrom(List<Change> line, int place) {
        int value = 0;
        for (Change c : line) {
            value = c.edits.getOrDefault(place, value);
        }
        return value;
    }

    private boolean build(List<Change> line) {
        for (int d = 0; d < 4; d++) {
            StringBuilder key = new StringBuilder("directory " + d);
            boolean has = false;
            for (Test t : tests) {
                if (!t.dropped && t.first / 16 == d) {
                    has = true;
                    key.append(' ').append(valueFrom(line, t.first)).append('+').append(valueFrom(line, t.second));
                }
            }
            if (!has) {
                continue;
            }
            Boolean result = cells.get(key.toString());
            if (result == null) {
                builds++;
                result = good(line, d);
                cells.put(key.toString(), result);
            } else {
                taken++;
            }
            if (!result) {
                return false;
            }
        }
        return true;
    }

    private boolean good(List<Change> line, int d) {
        for (Test t : tests) {
            if (!t.dropped && t.first / 16 == d && valueFrom(line, t.first) + valueFrom(line, t.second) > t.limit) {
                return false;
            }
        }
        return true;
    }

    boolean setFrozen(int d, boolean isFrozen) {
        directory(d);
        return isFrozen ? !frozen.add(d) : frozen.remove(d);
    }

    char stateOf(int n) {
        return change(n).state;
    }

    boolean hasFailed(int n) {
        return change(n).failed;
    }

    int clashes(int n) {
        return change(n).clashes.size();
    }

    int update(int n) {
        Change c = change(n);
        state(c.state == 'o');
        int before = c.clashes.size();
        for (Vote v : c.votes.values()) {
            v.covers.keySet().removeAll(c.clashes);
        }
        c.clashes.clear();
        return before;
    }

    int addTest(int file, int span, int other, int otherSpan, int limit) {
        Test t = new Test(place(file, span), place(other, otherSpan), limit);
        if (out(limit, 199)) {
            throw new IllegalArgumentException();
        }
        state(tests.size() < 12);
        if (valueFrom(merges, t.first) + valueFrom(merges, t.second) > limit) {
            throw new UnsupportedOperationException();
        }
        tests.add(t);
        cells.clear();
        return tests.size() - 1;
    }

    int dropTest(int n) {
        if (out(n, tests.size()) || tests.get(n).dropped) {
            throw new NoSuchElementException();
        }
        tests.get(n).dropped = true;
        cells.clear();
        return (int) tests.stream().filter(t -> !t.dropped).count();
    }

    int value(int file, int span) {
        return valueFrom(merges, place(file, span));
    }

    int valueByMerges(int file, int span) {
        return valueFrom(merges, place(file, span));
    }

    int valueWith(int n, int file, int span) {
        Change c = change(n);
        int place = place(file, span);
        List<Change> with = new ArrayList<>(merges);
        with.add(c);
        return valueFrom(with, place);
    }

    private Set<Change> gone(Change first) {
        Set<Change> gone = new HashSet<>();
        gone.add(first);
        boolean more = true;
        while (more) {
            more = false;
            for (Change a : new ArrayList<>(gone)) {
                for (int i = merges.indexOf(a) + 1; i < merges.size(); i++) {
                    if (merges.get(i).meets(a)) {
                        more |= gone.add(merges.get(i));
                    }
                }
            }
        }
        return gone;
    }

    int along(int n) {
        Change c = change(n);
        state(c.state == 'm');
        return gone(c).size();
    }

    int revert(int n) {
        Change c = change(n);
        state(c.state == 'm');
        Set<Change> gone = gone(c);
        List<Change> left = new ArrayList<>(merges);
        left.removeAll(gone);
        if (!build(left)) {
            throw new UnsupportedOperationException();
        }
        merges.removeAll(gone);
        for (Change g : gone) {
            g.state = 'v';
        }
        return gone.size();
    }

    int mergedAt(int i) {
        return changes.indexOf(merges.get(index(i, merges.size())));
    }

    boolean isGood(int d) {
        directory(d);
        return good(merges, d);
    }

    int builds() {
        return builds;
    }

    long taken() {
        return taken;
    }

    float takenShare() {
        if (builds + taken == 0) {
            throw new ArithmeticException();
        }
        return (float) taken / (float) (builds + taken);
    }

    double meanEdits() {
        if (merges.isEmpty()) {
            throw new ArithmeticException();
        }
        return (double) merges.stream().mapToInt(c -> c.edits.size()).sum() / (double) merges.size();
    }

    boolean isSound() {
        return good(merges, 0) && good(merges, 1) && good(merges, 2) && good(merges, 3);
    }
}
