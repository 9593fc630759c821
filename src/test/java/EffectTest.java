import java.util.ArrayList;
import java.util.LinkedHashMap;
import java.util.LinkedHashSet;
import java.util.List;
import java.util.Map;
import java.util.Set;
import java.util.TreeMap;
import java.util.TreeSet;

/**
 * "Nothing is promised beyond the answers and state changes described": two rooms are made alike, one
 * of them gets one call more, and all that they answer differently is due to be what the document says
 * that this call does. Each view gets two new rooms, so that no room has more than 512 calls.
 */
final class EffectTest {
    private interface Make {
        Branchyard room();
    }

    private interface Use {
        Object answer(Branchyard x);
    }

    private interface UseOf {
        Object answer(Branchyard x, int n);
    }

    // The changes of the room, by what has become of them.
    private static final int LOWER = 0;
    private static final int OPEN = 1;
    private static final int CLOSED = 2;
    private static final int UPPER = 3;
    private static final int BESIDE = 4;
    private static final int GONE = 5;
    private static final int FIRST = 6;
    private static final int FROZEN = 7;
    private static final int SECOND = 8;
    private static final int THIRD = 9;
    private static final int EMPTY = 10;
    private static final int FRESH = 11;
    private static final int CHANGES = 12;

    private static final int[][] EDITED = {
        {0, 0}, {0, 1}, {0, 2}, {1, 0}, {1, 1}, {2, 2}, {4, 0}, {5, 0}, {5, 3}, {8, 0}, {9, 0}, {10, 1}, {12, 0},
        {14, 0}, {15, 3}
    };

    private static final Views.View VOTES =
            (x, told) -> Views.votes(x, told, "vote", 0, 1, 2, 3, 4, 5, 6, 7, 8, 9, 10, 11);
    private static final Views.View[] VIEWS = {
        (x, told) -> Views.states(x, told, CHANGES),
        (x, told) -> Views.values(x, told, CHANGES, EDITED),
        VOTES,
        (x, told) -> Views.people(x, told, CHANGES),
        EffectTest::askCovered,
        EffectTest::askTests,
        EffectTest::askCells
    };

    private static final Check c = new Check("EffectTest");

    private final Make make;
    private final List<Map<String, String>> before = new ArrayList<>();

    private EffectTest(Make make) {
        this.make = make;
        for (Views.View view : VIEWS) {
            before.add(seen(view, make.room()));
        }
    }

    /**
     * A test allows file 0's spans 0 and 1 100 together: LOWER gives 60 and then UPPER 30 to the one,
     * BESIDE 60 to the other, so UPPER can't be reverted alone. OPEN, CLOSED and FIRST have failed;
     * OPEN and CLOSED clash with UPPER and BESIDE; SECOND edits a span of FIRST's, and so does GONE.
     * FIRST, FROZEN, SECOND and THIRD are queued. Votes are for, against, of before an edit, and none.
     */
    private static Branchyard room() {
        Branchyard x = new Branchyard();
        x.addTest(0, 0, 0, 1, 100);
        x.addTest(8, 0, 0, 1, 120);
        x.addTest(12, 0, 12, 1, 150);
        x.dropTest(2);
        lower(x);
        openAndClosed(x);
        Rooms.merged(x, 2, 0, 0, 30);
        Rooms.merged(x, 3, 0, 1, 60, 9, 0, 2);
        x.close(CLOSED);
        Rooms.merged(x, 2, 8, 0, 50, 0, 2, 1);
        x.revert(GONE);
        queued(x);
        emptyAndFresh(x);
        x.setOwner(2, 5, 3);
        x.setAway(5, true);
        x.setFrozen(3, true);
        Check.answerOf(() -> x.revert(UPPER));
        return x;
    }

    private static void lower(Branchyard x) {
        Rooms.change(x, 2, 0, 0, 60, 1, 0, 2);
        x.edit(LOWER, 1, 0, 1);
        x.vote(LOWER, 0, true);
        x.vote(LOWER, 5, true);
        x.queue(LOWER);
        x.step();
    }

    private static void openAndClosed(Branchyard x) {
        Rooms.merged(x, 4, 0, 0, 95, 0, 1, 6, 5, 0, 7);
        x.edit(OPEN, 0, 0, 5);
        x.edit(OPEN, 5, 1, 8);
        x.vote(OPEN, 0, true);
        x.vote(OPEN, 5, false);
        x.take(OPEN, 5, 1);
        Rooms.merged(x, 2, 0, 0, 99, 0, 1, 9);
        x.edit(CLOSED, 0, 1, 8);
        x.vote(CLOSED, 1, false);
        x.vote(CLOSED, 5, true);
    }

    /** FIRST has an edit in directory 2, where the verdict is missing later, when it has another owner. */
    private static void queued(Branchyard x) {
        Rooms.merged(x, 2, 0, 0, 80, 0, 2, 2, 4, 0, 4);
        x.edit(FIRST, 0, 2, 3);
        x.edit(FIRST, 10, 1, 5);
        x.edit(FIRST, 4, 1, 6);
        x.vote(FIRST, 0, true);
        x.vote(FIRST, 5, false);
        x.take(FIRST, 0, 0);
        x.take(FIRST, 4, 1);
        x.queue(FIRST);
        Rooms.queued(x, 5, 12, 0, 9);
        Rooms.queued(x, 2, 0, 2, 7, 5, 3, 1);
        Rooms.change(x, 3, 1, 1, 2);
        x.vote(THIRD, 5, true);
        x.queue(THIRD);
    }

    private static void emptyAndFresh(Branchyard x) {
        Rooms.change(x, 2);
        Rooms.change(x, 2, 2, 2, 1, 5, 0, 6, 9, 0, 3, 14, 0, 4, 15, 3, 9);
        x.edit(FRESH, 2, 2, 2);
        x.edit(FRESH, 9, 0, 4);
        x.vote(FRESH, 0, true);
        x.vote(FRESH, 3, true);
        x.vote(FRESH, 4, false);
        x.vote(FRESH, 5, true);
        x.take(FRESH, 15, 3);
    }

    private static Branchyard roomWithBadFirst() {
        Branchyard x = room();
        x.addTest(0, 2, 0, 2, 4);
        return x;
    }

    private static Branchyard roomWithBadThird() {
        Branchyard x = room();
        x.addTest(1, 1, 1, 1, 3);
        return x;
    }

    /** Edits are put back as they were when votes covered them, where the changes are open then. */
    private static void askCovered(Branchyard x, Map<String, String> told) {
        for (int n : new int[] {OPEN, FIRST, FRESH}) {
            Check.answerOf(() -> x.unqueue(n));
        }
        putBack(x, OPEN, 0, 0, 95);
        putBack(x, OPEN, 5, 1, 8);
        putBack(x, FIRST, 0, 0, 80);
        putBack(x, FIRST, 0, 2, 2);
        putBack(x, FIRST, 4, 1, 6);
        putBack(x, FRESH, 15, 3, 9);
        putBack(x, FRESH, 2, 2, 1);
        Views.votes(x, told, "voteAsItWas", OPEN, FIRST, FRESH);
    }

    private static void putBack(Branchyard x, int change, int file, int span, int value) {
        Check.answerOf(() -> x.edit(change, file, span, value));
    }

    private static void askTests(Branchyard x, Map<String, String> told) {
        for (int t = 0; t < 4; t++) {
            int test = t;
            Views.tell(told, "dropTest " + test, () -> x.dropTest(test));
        }
        for (int t = 0; t < 10; t++) {
            Views.tell(told, "addTest", () -> x.addTest(15, 0, 15, 0, 0));
        }
    }

    /** The trunk that the refused revert has built is built again. */
    private static void askCells(Branchyard x, Map<String, String> told) {
        Views.tell(told, "refused revert", () -> x.revert(UPPER));
        Views.counts(x, told);
    }

    private static Map<String, String> seen(Views.View view, Branchyard x) {
        Map<String, String> told = new LinkedHashMap<>();
        view.ask(x, told);
        return told;
    }

    /** What differs after the call, a line for all questions of one name that differ alike. */
    private String effectOf(Object due, String what, Use use) {
        TreeMap<String, Set<String>> lines = new TreeMap<>();
        for (int i = 0; i < VIEWS.length; i++) {
            Branchyard x = make.room();
            c.due(what, due, () -> use.answer(x));
            Map<String, String> after = seen(VIEWS[i], x);
            before.get(i).forEach((question, answer) -> {
                if (!answer.equals(after.get(question))) {
                    String[] words = question.split(" ", 2);
                    String line = words[0] + " was " + answer + ", is " + after.get(question);
                    lines.computeIfAbsent(line, l -> new LinkedHashSet<>()).add(words.length < 2 ? "so" : words[1]);
                }
            });
        }
        StringBuilder text = new StringBuilder();
        lines.forEach((line, of) -> text.append('\n').append(line).append(": ").append(String.join(", ", of)));
        return text.toString();
    }

    private void effect(Object due, String what, Use use, String... lines) {
        String got = effectOf(due, what, use);
        StringBuilder wanted = new StringBuilder();
        for (String line : new TreeSet<>(List.of(lines))) {
            wanted.append('\n').append(line);
        }
        c.due("effect of " + what, wanted, () -> got);
    }

    /** All of these ask, so nothing differs after them. */
    private void asks(String what, Use use) {
        effect("asked", what, x -> {
            use.answer(x);
            return "asked";
        });
    }

    private void asksOfEach(String what, UseOf use) {
        asks(what, x -> {
            for (int n = 0; n <= CHANGES; n++) {
                int number = n;
                Check.answerOf(() -> use.answer(x, number));
            }
            // Once more, for what would come and go with each question.
            return use.answer(x, LOWER);
        });
    }

    public static void main(String[] args) {
        EffectTest test = new EffectTest(EffectTest::room);
        theRoom();
        test.people();
        test.edits();
        test.votes();
        test.queue();
        test.clashesAndTests();
        test.reverts();
        test.questions();
        new EffectTest(EffectTest::roomWithBadFirst).stepOfBadFirst();
        new EffectTest(EffectTest::roomWithBadThird).stepOfBadThird();
        c.end();
    }

    /** Each change's state, failure and clashes, and, if it touches a directory, the votes of 0 to 5 there. */
    private static void theRoom() {
        String[] due = {
            "m 0 0:ys???y", "o failed 2 0:ys??nn 1:yy??nn", "x failed 2 0:sn???y", "m 0 0:yy????",
            "m 0 0:yy???? 2:yy????", "v 0 0:yy???? 2:yy????", "q failed 0 0:ys???n 1:yy???n 2:ys???n",
            "q 0 3:yy???y", "q 0 0:yy???? 1:yy????", "q 0 0:yy???y", "o 0",
            "o 0 0:ysyyny 1:yyyyny 2:ysyyny 3:yyyyny"
        };
        Branchyard x = room();
        Map<String, String> told = seen(VOTES, room());
        for (int n = 0; n < CHANGES; n++) {
            StringBuilder text = new StringBuilder();
            text.append(x.stateOf(n)).append(x.hasFailed(n) ? " failed " : " ").append(x.clashes(n));
            for (int d = 0; d < 4; d++) {
                if (x.verdict(n, d) != '-') {
                    text.append(" ").append(d).append(':');
                    for (int p = 0; p < 6; p++) {
                        text.append(told.get("vote " + n + " " + d + " of " + p));
                    }
                }
            }
            c.due("the room's change " + n, due[n], () -> text);
        }
    }

    private void people() {
        effect(0, "setOwner 0 4 2", x -> x.setOwner(0, 4, 2),
                "asked was 0, is 2: 1 0",
                "asked was 0, is 4: 0 0, 2 0, 3 0, 4 0, 5 0, 6 0, 7 0, 8 0, 9 0, 10 0, 11 0",
                "askedAllAway was 1, is 2: 1 0, 4 0, 7 0, 9 0",
                "askedAllAway was 1, is throws.NoSuchElementException: 0 0, 2 0, 3 0, 5 0, 6 0, 8 0, 10 0, 11 0",
                "missing was 0, is 1: 0, 1, 3, 4, 8, 9, 11",
                "missing was 1, is 2: 5, 6",
                "owner was 0, is 4: 0",
                "verdict was s, is ?: 2 0",
                "verdict was y, is ?: 0 0, 1 0, 3 0, 4 0, 5 0, 6 0, 8 0, 9 0",
                "verdict was y, is n: 11 0");
        effect(5, "setOwner 2 0 5", x -> x.setOwner(2, 0, 5),
                "asked was 3, is 0: 0 2, 1 2, 2 2, 3 2, 5 2, 6 2, 7 2, 8 2, 10 2, 11 2",
                "asked was throws.NoSuchElementException, is 0: 4 2, 9 2",
                "askedAllAway was 3, is 5: 0 2, 1 2, 2 2, 3 2, 5 2, 6 2, 8 2, 10 2, 11 2",
                "askedAllAway was 3, is throws.NoSuchElementException: 7 2",
                "askedAllAway was throws.NoSuchElementException, is 5: 4 2, 9 2",
                "missing was 1, is 0: 5, 6",
                "owner was 5, is 0: 2",
                "verdict was ?, is y: 5 2, 6 2",
                "verdict was f, is y: 4 2");
        effect(0, "setOwner 1 0 1", x -> x.setOwner(1, 0, 1));
        effect(false, "setAway 0 true", x -> x.setAway(0, true),
                "asked was 0, is 1: 0 0, 0 1, 0 3, 1 0, 1 1, 1 3, 2 0, 2 1, 2 3, 3 0, 3 1, 3 3, 4 0, 4 1, 4 3, 5 "
                        + "0, 5 1, 5 3, 6 0, 6 1, 6 3, 7 0, 7 1, 7 3, 8 0, 8 1, 8 3, 9 0, 9 1, 9 3, 10 0, 10 1, 10 3, 11 "
                        + "0, 11 1, 11 3",
                "away was false, is true: 0",
                "missing was 0, is 1: 0, 1, 11",
                "missing was 1, is 2: 6",
                "verdict was s, is n: 2 0",
                "verdict was y, is s: 0 0, 1 0, 6 0, 11 0");
        effect(true, "setAway 5 false", x -> x.setAway(5, false),
                "asked was 3, is 5: 0 2, 1 2, 2 2, 3 2, 5 2, 6 2, 8 2, 10 2, 11 2",
                "asked was throws.NoSuchElementException, is 5: 4 2, 9 2",
                "away was true, is false: 5",
                "missing was 0, is 1: 4",
                "verdict was ?, is n: 6 2",
                "verdict was f, is ?: 4 2");
        effect(true, "setAway 5 true", x -> x.setAway(5, true));
    }

    private void edits() {
        effect(12, "open 5", x -> x.open(5),
                "along was throws.NoSuchElementException, is throws.IllegalStateException: 12",
                "asked was throws.NoSuchElementException, is 0: 12 0, 12 1, 12 3",
                "asked was throws.NoSuchElementException, is 3: 12 2",
                "clashes was throws.NoSuchElementException, is 0: 12",
                "hasFailed was throws.NoSuchElementException, is false: 12",
                "missing was throws.NoSuchElementException, is 0: 12",
                "stateOf was throws.NoSuchElementException, is o: 12",
                "valueWith was throws.NoSuchElementException, is 0: 12 0 2, 12 1 1, 12 2 2, 12 4 0, 12 5 0, 12 5 "
                        + "3, 12 8 0, 12 10 1, 12 12 0, 12 14 0, 12 15 3",
                "valueWith was throws.NoSuchElementException, is 1: 12 1 0",
                "valueWith was throws.NoSuchElementException, is 2: 12 9 0",
                "valueWith was throws.NoSuchElementException, is 30: 12 0 0",
                "valueWith was throws.NoSuchElementException, is 60: 12 0 1",
                "verdict was throws.NoSuchElementException, is -: 12 0, 12 1, 12 2, 12 3");
        effect(3, "edit OPEN 0 0 7", x -> x.edit(OPEN, 0, 0, 7),
                "missing was 0, is 1: 1",
                "valueWith was 5, is 7: 1 0 0",
                "verdict was y, is s: 1 0",
                "vote was y, is s: 1 0 of 0");
        effect(3, "edit OPEN 0 0 5", x -> x.edit(OPEN, 0, 0, 5));
        effect(3, "edit OPEN 0 0 95", x -> x.edit(OPEN, 0, 0, 95),
                "missing was 0, is 1: 1",
                "valueWith was 5, is 95: 1 0 0",
                "verdict was y, is s: 1 0",
                "vote was s, is y: 1 0 of 1",
                "vote was y, is s: 1 0 of 0");
        effect(5, "edit FRESH 8 0 0", x -> x.edit(FRESH, 8, 0, 0),
                "missing was 0, is 1: 11",
                "verdict was y, is s: 11 2",
                "vote was y, is s: 11 2 of 0, 11 2 of 2, 11 2 of 3, 11 2 of 5",
                "voteAsItWas was y, is s: 11 2 of 0, 11 2 of 2, 11 2 of 3, 11 2 of 5");
        effect(1, "edit EMPTY 15 3 9", x -> x.edit(EMPTY, 15, 3, 9),
                "missing was 0, is 1: 10",
                "valueWith was 0, is 9: 10 15 3",
                "verdict was -, is s: 10 3",
                "vote was -, is ?: 10 3 of 2, 10 3 of 3, 10 3 of 4, 10 3 of 5",
                "vote was -, is s: 10 3 of 0, 10 3 of 1");
        effect(2, "take OPEN 0 0", x -> x.take(OPEN, 0, 0),
                "clashes was 2, is 1: 1",
                "valueWith was 5, is 30: 1 0 0",
                "vote was s, is y: 1 0 of 1");
        effect(3, "take FRESH 2 2", x -> x.take(FRESH, 2, 2),
                "valueWith was 2, is 0: 11 2 2",
                "verdict was y, is -: 11 0",
                "vote was n, is -: 11 0 of 4",
                "vote was s, is -: 11 0 of 1",
                "vote was y, is -: 11 0 of 0, 11 0 of 2, 11 0 of 3, 11 0 of 5");
        effect(3, "close OPEN", x -> x.close(OPEN),
                "stateOf was o, is x: 1",
                "voteAsItWas was s, is y: 1 0 of 0, 1 1 of 1",
                "voteAsItWas was y, is s: 1 0 of 1");
        effect(0, "close EMPTY", x -> x.close(EMPTY),
                "stateOf was o, is x: 10");
    }

    private void votes() {
        effect(3, "vote OPEN 0 true", x -> x.vote(OPEN, 0, true),
                "voteAsItWas was y, is s: 1 1 of 0");
        effect(3, "vote OPEN 5 true", x -> x.vote(OPEN, 5, true),
                "vote was n, is y: 1 0 of 4, 1 1 of 4, 1 0 of 5, 1 1 of 5",
                "voteAsItWas was n, is s: 1 0 of 4, 1 1 of 4, 1 0 of 5, 1 1 of 5");
        effect(0, "vote OPEN 0 false", x -> x.vote(OPEN, 0, false),
                "missing was 0, is 2: 1",
                "verdict was y, is n: 1 0, 1 1",
                "vote was y, is n: 1 0 of 0, 1 1 of 0",
                "voteAsItWas was s, is n: 1 0 of 0",
                "voteAsItWas was y, is n: 1 1 of 0");
        effect(0, "vote FRESH 0 false", x -> x.vote(FRESH, 0, false),
                "missing was 0, is 3: 11",
                "verdict was y, is n: 11 0, 11 1, 11 3",
                "vote was y, is n: 11 0 of 0, 11 1 of 0, 11 2 of 0, 11 3 of 0",
                "voteAsItWas was s, is n: 11 0 of 0",
                "voteAsItWas was y, is n: 11 1 of 0, 11 2 of 0, 11 3 of 0");
        effect(0, "vote FRESH 5 false", x -> x.vote(FRESH, 5, false),
                "vote was y, is n: 11 0 of 5, 11 1 of 5, 11 2 of 5, 11 3 of 5",
                "voteAsItWas was s, is n: 11 0 of 5",
                "voteAsItWas was y, is n: 11 1 of 5, 11 2 of 5, 11 3 of 5");
        effect(4, "vote FRESH 1 true", x -> x.vote(FRESH, 1, true),
                "vote was s, is y: 11 0 of 1, 11 2 of 1",
                "voteAsItWas was s, is y: 11 2 of 1",
                "voteAsItWas was y, is s: 11 0 of 1, 11 3 of 1");
    }

    private void queue() {
        effect(5, "queue FRESH", x -> x.queue(FRESH),
                "queueAt was throws.IndexOutOfBoundsException, is 11: 4",
                "stateOf was o, is q: 11");
        effect(3, "unqueue FIRST", x -> x.unqueue(FIRST),
                "queueAt was 6, is 7: 0",
                "queueAt was 7, is 8: 1",
                "queueAt was 8, is 9: 2",
                "queueAt was 9, is throws.IndexOutOfBoundsException: 3",
                "stateOf was q, is o: 6");
        effect(3, "unqueue FROZEN", x -> x.unqueue(FROZEN),
                "queueAt was 7, is 8: 1",
                "queueAt was 8, is 9: 2",
                "queueAt was 9, is throws.IndexOutOfBoundsException: 3",
                "stateOf was q, is o: 7");
        effect(2, "step", Branchyard::step,
                "along was throws.IllegalStateException, is 1: 6, 9",
                "clashes was 0, is 1: 8",
                "hasFailed was true, is false: 6",
                "meanEdits was 1.6666666666666667, is 1.8: so",
                "mergedAt was throws.IndexOutOfBoundsException, is 6: 3",
                "mergedAt was throws.IndexOutOfBoundsException, is 9: 4",
                "queueAt was 6, is 7: 0",
                "queueAt was 7, is throws.IndexOutOfBoundsException: 1",
                "queueAt was 8, is throws.IndexOutOfBoundsException: 2",
                "queueAt was 9, is throws.IndexOutOfBoundsException: 3",
                "stateOf was q, is m: 6, 9",
                "stateOf was q, is o: 8",
                "taken was 4, is 6: so",
                "taken was 5, is 7: so",
                "takenShare was 0.2857143, is 0.375: so",
                "value was 0, is 2: 1 1",
                "value was 0, is 3: 0 2",
                "value was 0, is 4: 4 0",
                "value was 0, is 5: 10 1",
                "valueByMerges was 0, is 2: 1 1",
                "valueByMerges was 0, is 3: 0 2",
                "valueByMerges was 0, is 4: 4 0",
                "valueByMerges was 0, is 5: 10 1",
                "valueWith was 0, is 2: 0 1 1, 1 1 1, 2 1 1, 3 1 1, 4 1 1, 5 1 1, 6 1 1, 7 1 1, 8 1 1, 10 1 1, "
                        + "11 1 1",
                "valueWith was 0, is 3: 0 0 2, 1 0 2, 2 0 2, 3 0 2, 4 0 2, 7 0 2, 9 0 2, 10 0 2, 11 0 2",
                "valueWith was 0, is 4: 0 4 0, 1 4 0, 2 4 0, 3 4 0, 4 4 0, 5 4 0, 7 4 0, 8 4 0, 9 4 0, 10 4 0, "
                        + "11 4 0",
                "valueWith was 0, is 5: 0 10 1, 1 10 1, 2 10 1, 3 10 1, 4 10 1, 5 10 1, 7 10 1, 8 10 1, 9 10 1, "
                        + "10 10 1, 11 10 1",
                "voteAsItWas was s, is y: 6 0 of 0, 6 1 of 1",
                "voteAsItWas was y, is s: 6 0 of 1");
        effect(true, "setFrozen 3 false", x -> x.setFrozen(3, false),
                "frozen was true, is false: 3");
        effect(false, "setFrozen 0 true", x -> x.setFrozen(0, true),
                "frozen was false, is true: 0");
    }

    private void clashesAndTests() {
        effect(2, "update OPEN", x -> x.update(OPEN),
                "clashes was 2, is 0: 1",
                "missing was 0, is 1: 1",
                "verdict was y, is s: 1 0",
                "vote was y, is s: 1 0 of 0",
                "voteAsItWas was y, is s: 1 0 of 1");
        effect(0, "update FRESH", x -> x.update(FRESH));
        effect(3, "addTest 15 0 14 0 4", x -> x.addTest(15, 0, 14, 0, 4),
                "addTest was 10, is 11: #8",
                "addTest was 11, is throws.IllegalStateException: #9",
                "addTest was 3, is 4: so",
                "addTest was 4, is 5: #2",
                "addTest was 5, is 6: #3",
                "addTest was 6, is 7: #4",
                "addTest was 7, is 8: #5",
                "addTest was 8, is 9: #6",
                "addTest was 9, is 10: #7",
                "builds was 10, is 11: so",
                "dropTest was 0, is 1: 1",
                "dropTest was 1, is 2: 0",
                "dropTest was throws.NoSuchElementException, is 0: 3",
                "taken was 5, is 4: so");
        effect(1, "dropTest 1", x -> x.dropTest(1),
                "builds was 10, is 11: so",
                "dropTest was 0, is throws.NoSuchElementException: 1",
                "dropTest was 1, is 0: 0",
                "taken was 5, is 4: so");
    }

    private void reverts() {
        effect(1, "revert BESIDE", x -> x.revert(BESIDE),
                "along was 1, is throws.IllegalStateException: 4",
                "meanEdits was 1.6666666666666667, is 1.5: so",
                "mergedAt was 4, is throws.IndexOutOfBoundsException: 2",
                "refused was throws.UnsupportedOperationException, is 1: revert",
                "stateOf was m, is v: 4",
                "taken was 4, is 6: so",
                "taken was 5, is 8: so",
                "takenShare was 0.2857143, is 0.375: so",
                "value was 2, is 0: 9 0",
                "value was 60, is 0: 0 1",
                "valueByMerges was 2, is 0: 9 0",
                "valueByMerges was 60, is 0: 0 1",
                "valueWith was 2, is 0: 0 9 0, 1 9 0, 2 9 0, 3 9 0, 5 9 0, 6 9 0, 7 9 0, 8 9 0, 9 9 0, 10 9 0",
                "valueWith was 60, is 0: 0 0 1, 3 0 1, 5 0 1, 6 0 1, 7 0 1, 8 0 1, 9 0 1, 10 0 1, 11 0 1");
        effect(2, "revert LOWER", x -> x.revert(LOWER),
                "along was 1, is throws.IllegalStateException: 3",
                "along was 2, is throws.IllegalStateException: 0",
                "builds was 10, is 11: so",
                "meanEdits was 1.6666666666666667, is 2.0: so",
                "mergedAt was 0, is 4: 0",
                "mergedAt was 3, is throws.IndexOutOfBoundsException: 1",
                "mergedAt was 4, is throws.IndexOutOfBoundsException: 2",
                "refused was throws.UnsupportedOperationException, is throws.IllegalStateException: revert",
                "stateOf was m, is v: 0, 3",
                "taken was 4, is 5: so",
                "takenShare was 0.2857143, is 0.3125: so",
                "value was 1, is 0: 1 0",
                "value was 30, is 0: 0 0",
                "valueByMerges was 1, is 0: 1 0",
                "valueByMerges was 30, is 0: 0 0",
                "valueWith was 1, is 0: 1 1 0, 2 1 0, 3 1 0, 4 1 0, 5 1 0, 6 1 0, 7 1 0, 8 1 0, 9 1 0, 10 1 0, "
                        + "11 1 0",
                "valueWith was 30, is 0: 4 0 0, 5 0 0, 6 0 0, 7 0 0, 8 0 0, 9 0 0, 10 0 0, 11 0 0");
    }

    /** Both are built, then FIRST is taken from the cell, then THIRD is built, in two directories. */
    private void stepOfBadFirst() {
        effect(1, "step, FIRST is bad", Branchyard::step,
                "along was throws.IllegalStateException, is 1: 9",
                "builds was 10, is 13: so",
                "builds was 11, is 14: so",
                "meanEdits was 1.6666666666666667, is 1.5: so",
                "mergedAt was throws.IndexOutOfBoundsException, is 9: 3",
                "queueAt was 6, is 7: 0",
                "queueAt was 7, is 8: 1",
                "queueAt was 8, is throws.IndexOutOfBoundsException: 2",
                "queueAt was 9, is throws.IndexOutOfBoundsException: 3",
                "stateOf was q, is m: 9",
                "stateOf was q, is o: 6",
                "taken was 4, is 5: so",
                "takenShare was 0.2857143, is 0.2777778: so",
                "value was 0, is 2: 1 1",
                "valueByMerges was 0, is 2: 1 1",
                "valueWith was 0, is 2: 0 1 1, 1 1 1, 2 1 1, 3 1 1, 4 1 1, 5 1 1, 6 1 1, 7 1 1, 8 1 1, "
                        + "10 1 1, 11 1 1");
    }

    /** Both are built, then FIRST is built, in two directories, and merged; THIRD has the inputs of both. */
    private void stepOfBadThird() {
        effect(1, "step, THIRD is bad", Branchyard::step,
                "along was throws.IllegalStateException, is 1: 6",
                "builds was 10, is 13: so",
                "builds was 11, is 14: so",
                "clashes was 0, is 1: 8",
                "hasFailed was false, is true: 9",
                "hasFailed was true, is false: 6",
                "meanEdits was 1.6666666666666667, is 2.0: so",
                "mergedAt was throws.IndexOutOfBoundsException, is 6: 3",
                "queueAt was 6, is 7: 0",
                "queueAt was 7, is throws.IndexOutOfBoundsException: 1",
                "queueAt was 8, is throws.IndexOutOfBoundsException: 2",
                "queueAt was 9, is throws.IndexOutOfBoundsException: 3",
                "stateOf was q, is m: 6",
                "stateOf was q, is o: 8, 9",
                "taken was 4, is 5: so",
                "takenShare was 0.2857143, is 0.2777778: so",
                "value was 0, is 3: 0 2",
                "value was 0, is 4: 4 0",
                "value was 0, is 5: 10 1",
                "valueByMerges was 0, is 3: 0 2",
                "valueByMerges was 0, is 4: 4 0",
                "valueByMerges was 0, is 5: 10 1",
                "valueWith was 0, is 3: 0 0 2, 1 0 2, 2 0 2, 3 0 2, 4 0 2, 7 0 2, 9 0 2, 10 0 2, 11 0 2",
                "valueWith was 0, is 4: 0 4 0, 1 4 0, 2 4 0, 3 4 0, 4 4 0, 5 4 0, 7 4 0, 8 4 0, 9 4 0, "
                        + "10 4 0, 11 4 0",
                "valueWith was 0, is 5: 0 10 1, 1 10 1, 2 10 1, 3 10 1, 4 10 1, 5 10 1, 7 10 1, 8 10 1, "
                        + "9 10 1, 10 10 1, 11 10 1",
                "voteAsItWas was s, is y: 6 0 of 0, 6 1 of 1",
                "voteAsItWas was y, is s: 6 0 of 1");
    }

    private void questions() {
        asksOfEach("stateOf", (x, n) -> x.stateOf(n));
        asksOfEach("hasFailed", (x, n) -> x.hasFailed(n));
        asksOfEach("clashes", (x, n) -> x.clashes(n));
        asksOfEach("missing", (x, n) -> x.missing(n));
        asksOfEach("along", (x, n) -> x.along(n));
        asks("along LOWER", x -> x.along(LOWER));
        asksOfEach("queueAt", (x, n) -> x.queueAt(n));
        asksOfEach("mergedAt", (x, n) -> x.mergedAt(n));
        for (int directory = 0; directory < 4; directory++) {
            int d = directory;
            asksOfEach("verdict in " + d, (x, n) -> x.verdict(n, d));
            asksOfEach("asked in " + d, (x, n) -> x.asked(n, d));
            asks("isGood " + d, x -> x.isGood(d));
        }
        for (int[] place : EDITED) {
            String of = " " + place[0] + " " + place[1];
            asksOfEach("valueWith" + of, (x, n) -> x.valueWith(n, place[0], place[1]));
            asks("value" + of, x -> x.value(place[0], place[1]));
            asks("valueByMerges" + of, x -> x.valueByMerges(place[0], place[1]));
        }
        asks("builds", Branchyard::builds);
        asks("taken", Branchyard::taken);
        asks("takenShare", Branchyard::takenShare);
        asks("meanEdits", Branchyard::meanEdits);
        asks("isSound", Branchyard::isSound);
    }
}
