import java.util.Arrays;
import java.util.NoSuchElementException;

/** A code review room with its trunk. What it must do stands in ../shared/DOC.md, by promises. */
public final class Branchyard {
    private static final int FILES = 16;
    private static final int SPANS_OF_FILE = 4;
    // A place is a span of a file: 4 times the file plus the span. A long holds a set of all 64.
    private static final int PLACES = 64;
    private static final int DIRECTORIES = 4;
    private static final int PLACES_OF_DIRECTORY = 16;
    private static final long FIRST_DIRECTORY = 0xFFFFL;
    private static final int HIGHEST_VALUE = 99;
    private static final int HIGHEST_LIMIT = 198;
    private static final int PEOPLE = 6;
    private static final int NOBODY = -1;
    private static final int CHANGES = 16;
    private static final int TESTS = 12;
    private static final int BATCH = 4;
    // Halves of a batch of 4 are singles at the second level.
    private static final int DEEPEST_HALVING = 2;
    // A step of 4 changes needs 5 calls and gives 7 times 4 results at most, and no calls give more
    // results for each of them; so 512 calls need fewer than 6 times 512 cells.
    private static final int CELLS = 3072;

    private static final char OPEN = 'o';
    private static final char QUEUED = 'q';
    private static final char MERGED = 'm';
    private static final char CLOSED = 'x';
    private static final char REVERTED = 'v';

    private static final int NOT_VOTED = 0;
    private static final int VOTED_FOR = 1;
    private static final int VOTED_AGAINST = 2;

    private final int[] owners = new int[DIRECTORIES];
    private final int[] standIns = new int[DIRECTORIES];
    private final boolean[] frozen = new boolean[DIRECTORIES];
    private final boolean[] away = new boolean[PEOPLE];
    private final Change[] changes = new Change[CHANGES];
    private int changeCount;
    private final Order queued = new Order();
    private final Order merged = new Order();
    private final int[] batch = new int[BATCH];
    private final int[] trunk = new int[PLACES];
    private final int[] candidate = new int[PLACES];
    private final Works works = new Works();

    public Branchyard() {
        for (int i = 0; i < DIRECTORIES; i++) {
            standIns[i] = 1;
        }
        for (int i = 0; i < CHANGES; i++) {
            changes[i] = new Change();
        }
    }

    public int setOwner(int directory, int owner, int standIn) throws IndexOutOfBoundsException, IllegalArgumentException {
        checkDirectory(directory);
        checkPerson(owner);
        checkPerson(standIn);
        if (owner == standIn) {
            throw new IllegalArgumentException("the owner and the stand-in are the same person");
        }
        int before = owners[directory];
        owners[directory] = owner;
        standIns[directory] = standIn;
        return before;
    }

    public boolean setAway(int person, boolean isAway) throws IllegalArgumentException {
        checkPerson(person);
        boolean before = away[person];
        away[person] = isAway;
        return before;
    }

    public int open(int author) throws IllegalArgumentException, IllegalStateException {
        checkPerson(author);
        if (changeCount >= CHANGES) {
            throw new IllegalStateException("there are 16 changes");
        }
        int number = changeCount;
        changes[number].author = author;
        changeCount++;
        return number;
    }

    public int edit(int change, int file, int span, int value) throws NoSuchElementException, IndexOutOfBoundsException, IllegalArgumentException, IllegalStateException {
        Change edited = changeOf(change);
        int place = placeOf(file, span);
        if (value < 0 || value > HIGHEST_VALUE) {
            throw new IllegalArgumentException("the value is out of range");
        }
        checkOpen(edited);
        edited.putEdit(place, value);
        return edited.editCount();
    }

    public int take(int change, int file, int span) throws NoSuchElementException, IndexOutOfBoundsException, IllegalStateException {
        Change edited = changeOf(change);
        int place = placeOf(file, span);
        checkOpen(edited);
        if (!edited.hasEdit(place)) {
            throw new IllegalStateException("the change has no edit of the span");
        }
        edited.removeEdit(place);
        return edited.editCount();
    }

    public int close(int change) throws NoSuchElementException, IllegalStateException {
        Change closed = changeOf(change);
        checkOpen(closed);
        closed.state = CLOSED;
        return closed.editCount();
    }

    public int vote(int change, int person, boolean isFor) throws NoSuchElementException, IllegalArgumentException, IllegalStateException {
        Change judged = changeOf(change);
        checkPerson(person);
        if (person == judged.author) {
            throw new IllegalArgumentException("the person is the author");
        }
        checkOpen(judged);
        if (isFor) {
            judged.voteFor(person);
            return judged.editCount();
        }
        judged.voteAgainst(person);
        return 0;
    }

    public char verdict(int change, int directory) throws NoSuchElementException, IndexOutOfBoundsException {
        Change judged = changeOf(change);
        checkDirectory(directory);
        return verdictOf(judged, directory);
    }

    public int asked(int change, int directory) throws NoSuchElementException, IndexOutOfBoundsException {
        Change judged = changeOf(change);
        checkDirectory(directory);
        int person = personAsked(judged, directory);
        if (person == NOBODY) {
            throw new NoSuchElementException("nobody is asked");
        }
        return person;
    }

    public int missing(int change) throws NoSuchElementException {
        return missingVerdicts(changeOf(change));
    }

    public int queue(int change) throws NoSuchElementException, IllegalStateException, UnsupportedOperationException {
        Change entering = changeOf(change);
        checkOpen(entering);
        if (entering.edits == 0L || entering.clashing != 0L) {
            throw new IllegalStateException("the change has no edits, or has a clash");
        }
        if (missingVerdicts(entering) > 0) {
            throw new UnsupportedOperationException("a verdict is missing");
        }
        entering.state = QUEUED;
        queued.append(change);
        return queued.size;
    }

    public int unqueue(int change) throws NoSuchElementException, IllegalStateException {
        Change leaving = changeOf(change);
        if (leaving.state != QUEUED) {
            throw new IllegalStateException("the change is not queued");
        }
        reopen(change);
        return queued.size;
    }

    public int queueAt(int index) throws IndexOutOfBoundsException {
        checkIndex(queued, index);
        return queued.at(index);
    }

    public int step() throws NoSuchElementException {
        int count = pickBatch();
        if (count == 0) {
            throw new NoSuchElementException("no queued change can be taken");
        }
        return tryTogether(0, count, 0);
    }

    public boolean setFrozen(int directory, boolean isFrozen) throws IndexOutOfBoundsException {
        checkDirectory(directory);
        boolean before = frozen[directory];
        frozen[directory] = isFrozen;
        return before;
    }

    public char stateOf(int change) throws NoSuchElementException {
        return changeOf(change).state;
    }

    public boolean hasFailed(int change) throws NoSuchElementException {
        return changeOf(change).failed;
    }

    public int clashes(int change) throws NoSuchElementException {
        return changeOf(change).clashCount();
    }

    public int update(int change) throws NoSuchElementException, IllegalStateException {
        Change updated = changeOf(change);
        checkOpen(updated);
        int before = updated.clashCount();
        updated.bringUpToDate();
        return before;
    }

    public int addTest(int file, int span, int other, int otherSpan, int limit) throws IndexOutOfBoundsException, IllegalArgumentException, IllegalStateException, UnsupportedOperationException {
        int first = placeOf(file, span);
        int second = placeOf(other, otherSpan);
        if (limit < 0 || limit > HIGHEST_LIMIT) {
            throw new IllegalArgumentException("the limit is out of range");
        }
        if (works.added >= TESTS) {
            throw new IllegalStateException("12 tests were added");
        }
        if (trunk[first] + trunk[second] > limit) {
            throw new UnsupportedOperationException("the test does not pass on the trunk");
        }
        return works.add(first, second, limit);
    }

    public int dropTest(int test) throws NoSuchElementException {
        if (test < 0 || test >= works.added || !works.tests[test].counts) {
            throw new NoSuchElementException("there is no such test, or it was dropped");
        }
        return works.drop(test);
    }

    public int value(int file, int span) throws IndexOutOfBoundsException {
        return trunk[placeOf(file, span)];
    }

    public int valueByMerges(int file, int span) throws IndexOutOfBoundsException {
        return replayedValue(placeOf(file, span));
    }

    public int valueWith(int change, int file, int span) throws NoSuchElementException, IndexOutOfBoundsException {
        Change tried = changeOf(change);
        int place = placeOf(file, span);
        return tried.hasEdit(place) ? tried.values[place] : trunk[place];
    }

    public int along(int change) throws NoSuchElementException, IllegalStateException {
        checkMerged(changeOf(change));
        return Integer.bitCount(goingAlong(change));
    }

    public int revert(int change) throws NoSuchElementException, IllegalStateException, UnsupportedOperationException {
        checkMerged(changeOf(change));
        int going = goingAlong(change);
        if (!isGoodWithout(going)) {
            throw new UnsupportedOperationException("a directory of the trunk without them is not good");
        }
        System.arraycopy(candidate, 0, trunk, 0, PLACES);
        takeBack(going);
        return Integer.bitCount(going);
    }

    public int mergedAt(int index) throws IndexOutOfBoundsException {
        checkIndex(merged, index);
        return merged.at(index);
    }

    public boolean isGood(int directory) throws IndexOutOfBoundsException {
        checkDirectory(directory);
        return works.allPass(directory, trunk);
    }

    public int builds() {
        return works.buildsRun;
    }

    public long taken() {
        return works.takenFromCells;
    }

    public float takenShare() throws ArithmeticException {
        long results = works.takenFromCells + works.buildsRun;
        if (results == 0L) {
            throw new ArithmeticException("there were no results");
        }
        return (float) works.takenFromCells / (float) results;
    }

    public double meanEdits() throws ArithmeticException {
        if (merged.size == 0) {
            throw new ArithmeticException("no changes are merged");
        }
        int sum = 0;
        for (int i = 0; i < merged.size; i++) {
            sum += changes[merged.at(i)].editCount();
        }
        return (double) sum / (double) merged.size;
    }

    public boolean isSound() {
        for (int directory = 0; directory < DIRECTORIES; directory++) {
            if (!works.allPass(directory, trunk)) {
                return false;
            }
        }
        for (int place = 0; place < PLACES; place++) {
            if (trunk[place] != replayedValue(place)) {
                return false;
            }
        }
        return true;
    }

    private static void checkDirectory(int directory) {
        if (directory < 0 || directory >= DIRECTORIES) {
            throw new IndexOutOfBoundsException("there is no such directory");
        }
    }

    private static void checkPerson(int person) {
        if (person < 0 || person >= PEOPLE) {
            throw new IllegalArgumentException("there is no such person");
        }
    }

    private static void checkIndex(Order order, int index) {
        if (index < 0 || index >= order.size) {
            throw new IndexOutOfBoundsException("there is no such change");
        }
    }

    private static void checkOpen(Change change) {
        if (change.state != OPEN) {
            throw new IllegalStateException("the change is not open");
        }
    }

    private static void checkMerged(Change change) {
        if (change.state != MERGED) {
            throw new IllegalStateException("the change is not merged");
        }
    }

    private static int placeOf(int file, int span) {
        if (file < 0 || file >= FILES || span < 0 || span >= SPANS_OF_FILE) {
            throw new IndexOutOfBoundsException("there is no such file or span");
        }
        return file * SPANS_OF_FILE + span;
    }

    private Change changeOf(int number) {
        if (number < 0 || number >= changeCount) {
            throw new NoSuchElementException("there is no such change");
        }
        return changes[number];
    }

    private int personAsked(Change change, int directory) {
        int owner = owners[directory];
        if (!away[owner] && owner != change.author) {
            return owner;
        }
        int standIn = standIns[directory];
        return standIn == change.author ? NOBODY : standIn;
    }

    private char verdictOf(Change change, int directory) {
        if (!change.touches(directory)) {
            return '-';
        }
        int person = personAsked(change, directory);
        return person == NOBODY ? 'f' : change.verdictBy(person, directory);
    }

    private int missingVerdicts(Change change) {
        int count = 0;
        for (int directory = 0; directory < DIRECTORIES; directory++) {
            char verdict = verdictOf(change, directory);
            if (verdict == '?' || verdict == 'n' || verdict == 's') {
                count++;
            }
        }
        return count;
    }

    private void reopen(int number) {
        queued.drop(number);
        changes[number].state = OPEN;
    }

    private boolean touchesFrozen(Change change) {
        for (int directory = 0; directory < DIRECTORIES; directory++) {
            if (frozen[directory] && change.touches(directory)) {
                return true;
            }
        }
        return false;
    }

    private int pickBatch() {
        int count = 0;
        long places = 0L;
        for (int i = 0; i < queued.size && count < BATCH; i++) {
            int number = queued.at(i);
            Change change = changes[number];
            if (!touchesFrozen(change) && (change.edits & places) == 0L) {
                batch[count] = number;
                count++;
                places |= change.edits;
            }
        }
        return count;
    }

    /** Tries the changes of the batch from one index up to another, and tells how many are merged. */
    private int tryTogether(int from, int to, int depth) {
        if (isGoodWithBatch(from, to)) {
            for (int i = from; i < to; i++) {
                merge(batch[i]);
            }
            return to - from;
        }
        if (to - from > 1) {
            return tryHalves(from, to, depth + 1);
        }
        reopen(batch[from]);
        changes[batch[from]].failed = true;
        return 0;
    }

    private int tryHalves(int from, int to, int depth) {
        if (depth > DEEPEST_HALVING) {
            return 0;
        }
        int middle = from + (to - from) / 2;
        int mergedFirst = tryTogether(from, middle, depth);
        return mergedFirst + tryTogether(middle, to, depth);
    }

    private boolean isGoodWithBatch(int from, int to) {
        System.arraycopy(trunk, 0, candidate, 0, PLACES);
        for (int i = from; i < to; i++) {
            changes[batch[i]].applyTo(candidate);
        }
        return works.buildTrunk(candidate);
    }

    private void merge(int number) {
        Change change = changes[number];
        queued.drop(number);
        merged.append(number);
        change.state = MERGED;
        change.failed = false;
        change.applyTo(trunk);
        for (int other = 0; other < changeCount; other++) {
            if (other != number) {
                clashIfShared(other, change.edits);
            }
        }
    }

    private void clashIfShared(int number, long places) {
        Change change = changes[number];
        long shared = change.edits & places;
        if (shared == 0L || change.state != OPEN && change.state != QUEUED) {
            return;
        }
        change.clashing |= shared;
        if (change.state == QUEUED) {
            reopen(number);
        }
    }

    private int replayedValue(int place) {
        int value = 0;
        for (int i = 0; i < merged.size; i++) {
            Change change = changes[merged.at(i)];
            if (change.hasEdit(place)) {
                value = change.values[place];
            }
        }
        return value;
    }

    /** Returns the set of the changes to be reverted with one, a bit for each number. */
    private int goingAlong(int first) {
        int going = 0;
        long places = 0L;
        // What goes along stands behind what it goes along with, so one way through finds all.
        for (int i = 0; i < merged.size; i++) {
            int number = merged.at(i);
            Change change = changes[number];
            if (number == first || (change.edits & places) != 0L) {
                going |= 1 << number;
                places |= change.edits;
            }
        }
        return going;
    }

    private boolean isGoodWithout(int going) {
        Arrays.fill(candidate, 0);
        for (int i = 0; i < merged.size; i++) {
            int number = merged.at(i);
            if ((going & 1 << number) == 0) {
                changes[number].applyTo(candidate);
            }
        }
        return works.buildTrunk(candidate);
    }

    private void takeBack(int going) {
        for (int number = 0; number < changeCount; number++) {
            if ((going & 1 << number) != 0) {
                merged.drop(number);
                changes[number].state = REVERTED;
            }
        }
    }

    /** Numbers of changes, each at most once, in the order in which they came. */
    private static final class Order {
        private final int[] numbers = new int[CHANGES];
        private int size;

        /** The caller has held the index against the size. */
        private int at(int index) {
            return numbers[index];
        }

        private void append(int number) {
            if (size < CHANGES) {
                numbers[size] = number;
                size++;
            }
        }

        private void drop(int number) {
            int kept = 0;
            for (int i = 0; i < size; i++) {
                if (numbers[i] != number) {
                    numbers[kept] = numbers[i];
                    kept++;
                }
            }
            size = kept;
        }
    }

    /** A change with its edits, its clashes and the last vote of each person about it. */
    private static final class Change {
        private int author;
        private char state = OPEN;
        private boolean failed;
        private long edits;
        private long clashing;
        private final int[] values = new int[PLACES];
        private final int[] votes = new int[PEOPLE];
        private final long[] coveredPlaces = new long[PEOPLE];
        private final int[][] coveredValues = new int[PEOPLE][PLACES];

        private int editCount() {
            return Long.bitCount(edits);
        }

        private int clashCount() {
            return Long.bitCount(clashing);
        }

        private boolean hasEdit(int place) {
            return (edits & 1L << place) != 0L;
        }

        private void putEdit(int place, int value) {
            edits |= 1L << place;
            values[place] = value;
        }

        private void removeEdit(int place) {
            edits &= ~(1L << place);
            clashing &= ~(1L << place);
        }

        private boolean touches(int directory) {
            return (edits & FIRST_DIRECTORY << directory * PLACES_OF_DIRECTORY) != 0L;
        }

        private void applyTo(int[] target) {
            for (int place = 0; place < PLACES; place++) {
                if (hasEdit(place)) {
                    target[place] = values[place];
                }
            }
        }

        private void voteFor(int person) {
            votes[person] = VOTED_FOR;
            coveredPlaces[person] = edits;
            System.arraycopy(values, 0, coveredValues[person], 0, PLACES);
        }

        private void voteAgainst(int person) {
            votes[person] = VOTED_AGAINST;
            coveredPlaces[person] = 0L;
        }

        private char verdictBy(int person, int directory) {
            if (votes[person] == NOT_VOTED) {
                return '?';
            }
            if (votes[person] == VOTED_AGAINST) {
                return 'n';
            }
            return coversAll(person, directory) ? 'y' : 's';
        }

        private boolean coversAll(int person, int directory) {
            int from = directory * PLACES_OF_DIRECTORY;
            for (int place = from; place < from + PLACES_OF_DIRECTORY; place++) {
                if (hasEdit(place) && !covers(person, place)) {
                    return false;
                }
            }
            return true;
        }

        private boolean covers(int person, int place) {
            boolean wasThere = (coveredPlaces[person] & 1L << place) != 0L;
            return wasThere && coveredValues[person][place] == values[place];
        }

        private void bringUpToDate() {
            for (int person = 0; person < PEOPLE; person++) {
                coveredPlaces[person] &= ~clashing;
            }
            clashing = 0L;
        }
    }

    /** A test of the sum of two places. */
    private static final class Test {
        private int first;
        private int second;
        private int limit;
        private boolean counts;

        private boolean isOf(int directory) {
            return counts && first / PLACES_OF_DIRECTORY == directory;
        }

        private boolean passes(int[] values) {
            return values[first] + values[second] <= limit;
        }
    }

    /** A result that is kept by its inputs; the next one is an older one of the same directory. */
    private static final class Cell {
        private final int[] inputs;
        private final boolean good;
        private final Cell next;

        private Cell(int[] inputs, boolean good, Cell next) {
            this.inputs = inputs;
            this.good = good;
            this.next = next;
        }

        private boolean holds(int[] others, int count) {
            if (count != inputs.length || count > others.length) {
                return false;
            }
            for (int i = 0; i < count; i++) {
                if (inputs[i] != others[i]) {
                    return false;
                }
            }
            return true;
        }
    }

    /** The tests, and the cells with the results of their builds. */
    private static final class Works {
        private final Test[] tests = new Test[TESTS];
        private int added;
        private final Cell[] newest = new Cell[DIRECTORIES];
        private int cellsMade;
        private final int[] inputs = new int[2 * TESTS];
        private int buildsRun;
        private long takenFromCells;

        private Works() {
            for (int i = 0; i < TESTS; i++) {
                tests[i] = new Test();
            }
        }

        /** The caller has seen that fewer than 12 tests were added. */
        private int add(int first, int second, int limit) {
            int number = added;
            Test test = tests[number];
            test.first = first;
            test.second = second;
            test.limit = limit;
            test.counts = true;
            added++;
            forgetCells();
            return number;
        }

        /** The caller has seen that the test counts; returns how many still do. */
        private int drop(int number) {
            tests[number].counts = false;
            forgetCells();
            int left = 0;
            for (int i = 0; i < added; i++) {
                if (tests[i].counts) {
                    left++;
                }
            }
            return left;
        }

        private void forgetCells() {
            for (int directory = 0; directory < DIRECTORIES; directory++) {
                newest[directory] = null;
            }
        }

        private boolean allPass(int directory, int[] values) {
            for (int i = 0; i < added; i++) {
                if (tests[i].isOf(directory) && !tests[i].passes(values)) {
                    return false;
                }
            }
            return true;
        }

        private boolean buildTrunk(int[] values) {
            for (int directory = 0; directory < DIRECTORIES; directory++) {
                int count = readInputs(directory, values);
                if (count > 0 && !resultOf(directory, values, count)) {
                    return false;
                }
            }
            return true;
        }

        private int readInputs(int directory, int[] values) {
            int count = 0;
            for (int i = 0; i < added; i++) {
                if (tests[i].isOf(directory)) {
                    inputs[count] = values[tests[i].first];
                    inputs[count + 1] = values[tests[i].second];
                    count += 2;
                }
            }
            return count;
        }

        /** The inputs have been read; the result comes from a cell that keeps it, or from a build. */
        private boolean resultOf(int directory, int[] values, int count) {
            for (Cell cell = newest[directory]; cell != null; cell = cell.next) {
                if (cell.holds(inputs, count)) {
                    takenFromCells++;
                    return cell.good;
                }
            }
            buildsRun++;
            boolean good = allPass(directory, values);
            if (cellsMade < CELLS) {
                newest[directory] = new Cell(Arrays.copyOf(inputs, count), good, newest[directory]);
                cellsMade++;
            }
            return good;
        }
    }
}
