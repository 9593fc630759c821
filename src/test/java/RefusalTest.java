import java.util.LinkedHashMap;
import java.util.Map;

/**
 * "A method that throws an exception changes nothing, but that what cells keep and count stays":
 * two rooms are made alike, one of them refuses a call, and then both must answer all alike. The
 * questions come in several rounds, each with two new rooms, so that no room has more than 512 calls.
 */
final class RefusalTest {
    private interface Make {
        Branchyard room();
    }

    private interface Use {
        Object answer(Branchyard x);
    }

    private static final String ELEMENT = "throws.NoSuchElementException";
    private static final String INDEX = "throws.IndexOutOfBoundsException";
    private static final String ARGUMENT = "throws.IllegalArgumentException";
    private static final String STATE = "throws.IllegalStateException";
    private static final String UNSUPPORTED = "throws.UnsupportedOperationException";
    private static final String ARITHMETIC = "throws.ArithmeticException";

    // The changes of the busy room.
    private static final int BOTTOM = 0;
    private static final int NEEDED = 1;
    private static final int ON_TOP = 2;
    private static final int CLASHING = 3;
    private static final int FROZEN = 4;
    private static final int CLOSED = 5;
    private static final int REVERTED = 6;
    private static final int EMPTY = 7;
    private static final int AGAINST = 8;
    private static final int FAILED = 9;
    private static final int CHANGES = 10;
    private static final int[][] EDITED = {
        {0, 0}, {0, 1}, {0, 2}, {1, 1}, {5, 0}, {6, 1}, {8, 0}, {9, 2}, {12, 0}, {15, 3}
    };

    private static final Views.View[] VIEWS = {
        RefusalTest::askStates, RefusalTest::askValues, RefusalTest::askVotes, RefusalTest::askPeople,
        RefusalTest::askTests, RefusalTest::askQueue, RefusalTest::askCells
    };

    private static final Check c = new Check("RefusalTest");

    public static void main(String[] args) {
        busyRoom();
        peopleAndDirectories();
        changesThatAreNotThere();
        placesAndNumbers();
        states();
        verdictsAndSteps();
        tests();
        meansOfNothing();
        fullRooms();
        emptyRooms();
        keptCounts();
        c.end();
    }

    /**
     * The trunk has 60 from BOTTOM, 30 from NEEDED in its place, and 60 from ON_TOP beside it; a test
     * allows 100 for both spans, so NEEDED can't be reverted alone.
     */
    private static Branchyard busy() {
        Branchyard x = new Branchyard();
        Rooms.merged(x, 2, 0, 0, 60);
        Rooms.queued(x, 2, 0, 0, 30);
        Rooms.change(x, 3, 0, 1, 60);
        Rooms.change(x, 4, 0, 0, 5, 0, 1, 6, 5, 0, 7);
        addTests(x);
        x.step();
        x.queue(ON_TOP);
        x.step();
        x.setFrozen(3, true);
        Rooms.queued(x, 5, 12, 0, 9);
        Rooms.change(x, 2, 1, 1, 4, 9, 2, 5);
        x.close(CLOSED);
        Rooms.merged(x, 2, 8, 0, 70);
        x.revert(REVERTED);
        x.open(2);
        Rooms.change(x, 3, 6, 1, 8);
        x.vote(AGAINST, 0, false);
        x.vote(AGAINST, 5, true);
        Rooms.merged(x, 2, 0, 2, 3, 0, 0, 80);
        x.setOwner(2, 5, 3);
        x.setAway(5, true);
        return x;
    }

    /** The room is as the refusals below need it. */
    private static void busyRoom() {
        Branchyard x = busy();
        String states = "mmmoqxvooo";
        // Two edit directory 2, where the one who is asked has changed; AGAINST has a vote against it.
        String missing = "0000011010";
        for (int n = 0; n < CHANGES; n++) {
            int change = n;
            c.due("17 state of " + n, states.charAt(n), () -> x.stateOf(change));
            c.due("18 failed " + n, n == FAILED, () -> x.hasFailed(change));
            c.due("19 clashes of " + n, n == CLASHING ? 2 : 0, () -> x.clashes(change));
            c.due("11 missing of " + n, missing.charAt(n) - '0', () -> x.missing(change));
        }
        c.due("23 the upper span", 30, () -> x.value(0, 0));
        c.due("23 the one beside it", 60, () -> x.value(0, 1));
        c.due("26 NEEDED is alone", 1, () -> x.along(NEEDED));
    }

    private static Branchyard busyAndFull() {
        Branchyard x = busy();
        for (int i = CHANGES; i < 16; i++) {
            x.open(2);
        }
        for (int i = 3; i < 12; i++) {
            x.addTest(15, 3, 14, 3, 198);
        }
        c.unsupported("27 a bad trunk, whose cell is kept", () -> x.revert(NEEDED));
        return x;
    }

    /** No test was there when something was merged or reverted, so there are no results. */
    private static Branchyard unbuilt() {
        Branchyard x = new Branchyard();
        Rooms.merged(x, 2, 0, 0, 60);
        Rooms.merged(x, 2, 1, 0, 7);
        Rooms.merged(x, 2, 8, 0, 70);
        Rooms.change(x, 4, 0, 0, 5, 5, 0, 7);
        Rooms.merged(x, 2, 0, 0, 30);
        x.revert(2);
        Rooms.queued(x, 3, 12, 0, 9);
        Rooms.queued(x, 3, 6, 1, 9);
        addTests(x);
        people(x);
        return x;
    }

    /** What was merged is reverted; there are results, and changes of each other state. */
    private static Branchyard unmerged() {
        Branchyard x = new Branchyard();
        addTests(x);
        Rooms.merged(x, 3, 0, 0, 9, 0, 1, 99);
        Rooms.change(x, 2, 1, 1, 4);
        x.close(1);
        Rooms.merged(x, 2, 0, 1, 98, 0, 0, 3);
        Rooms.change(x, 4, 0, 0, 5, 5, 0, 7);
        Rooms.merged(x, 2, 0, 0, 30);
        x.revert(4);
        Rooms.queued(x, 3, 12, 0, 9);
        Rooms.queued(x, 3, 6, 1, 9);
        people(x);
        return x;
    }

    private static void addTests(Branchyard x) {
        x.addTest(0, 0, 0, 1, 100);
        x.addTest(4, 0, 8, 0, 120);
        x.addTest(12, 0, 12, 1, 150);
        x.dropTest(2);
    }

    private static void people(Branchyard x) {
        x.setFrozen(3, true);
        x.setOwner(2, 5, 3);
        x.setAway(5, true);
    }

    /** In directory 3, nobody is asked about a change of person 2. */
    private static Branchyard busyWithNobody() {
        Branchyard x = busy();
        x.setOwner(3, 5, 2);
        return x;
    }

    private static void refused(Make make, String what, String refusal, Use use) {
        for (Views.View view : VIEWS) {
            Branchyard refusing = make.room();
            c.due(what, refusal, () -> use.answer(refusing));
            Map<String, String> got = new LinkedHashMap<>();
            view.ask(refusing, got);
            Map<String, String> due = new LinkedHashMap<>();
            view.ask(make.room(), due);
            due.forEach((question, answer) -> c.due("after " + what + ", " + question, answer, () -> got.get(question)));
        }
    }

    private static void busy(String what, String refusal, Use use) {
        refused(RefusalTest::busy, what, refusal, use);
    }

    private static void askStates(Branchyard x, Map<String, String> told) {
        Views.states(x, told, CHANGES);
    }

    private static void askValues(Branchyard x, Map<String, String> told) {
        Views.values(x, told, CHANGES, EDITED);
    }

    private static void askVotes(Branchyard x, Map<String, String> told) {
        Views.votes(x, told, "vote", 0, 1, 2, 3, 4, 5, 6, 7, 8, 9);
    }

    private static void askPeople(Branchyard x, Map<String, String> told) {
        Views.people(x, told, CHANGES);
        for (int i = 0; i < 7; i++) {
            Views.tell(told, "open", () -> x.open(2));
        }
    }

    private static void askTests(Branchyard x, Map<String, String> told) {
        Views.tell(told, "addTest 15 0 15 0 0", () -> x.addTest(15, 0, 15, 0, 0));
        for (int t = 0; t <= 12; t++) {
            int test = t;
            Views.tell(told, "dropTest " + test, () -> x.dropTest(test));
        }
        for (int t = 0; t < 12; t++) {
            Views.tell(told, "addTest 15 0 15 0 0", () -> x.addTest(15, 0, 15, 0, 0));
        }
    }

    /** What can be done next with each change, and what comes of it. */
    private static void askQueue(Branchyard x, Map<String, String> told) {
        for (int d = 0; d < 4; d++) {
            int directory = d;
            Views.tell(told, "setFrozen " + directory + " false", () -> x.setFrozen(directory, false));
        }
        for (int n = 0; n < CHANGES; n++) {
            int change = n;
            Views.tell(told, "queue " + change, () -> x.queue(change));
            Views.tell(told, "update " + change, () -> x.update(change));
            Views.tell(told, "queue " + change, () -> x.queue(change));
            Views.tell(told, "take " + change + " 0 0", () -> x.take(change, 0, 0));
            Views.tell(told, "edit " + change + " 15 3 " + change, () -> x.edit(change, 15, 3, change));
        }
        for (int i = 0; i < 4; i++) {
            Views.tell(told, "step", x::step);
            Views.counts(x, told);
        }
        for (int i = 0; i < 5; i++) {
            int index = i;
            Views.tell(told, "mergedAt " + index, () -> x.mergedAt(index));
        }
        Views.tell(told, "revert " + BOTTOM, () -> x.revert(BOTTOM));
        Views.tell(told, "isSound", x::isSound);
    }

    /** What the cells keep: the same trunk is built again, and then one with other inputs. */
    private static void askCells(Branchyard x, Map<String, String> told) {
        Views.tell(told, "revert " + NEEDED, () -> x.revert(NEEDED));
        Views.counts(x, told);
        for (int i = 0; i < 2; i++) {
            Views.tell(told, "unqueue " + FROZEN, () -> x.unqueue(FROZEN));
            Views.tell(told, "take " + FAILED + " 0 0", () -> x.take(FAILED, 0, 0));
            Views.tell(told, "edit " + FAILED + " 8 0 70", () -> x.edit(FAILED, 8, 0, 70));
            Views.tell(told, "vote " + FAILED + " 0 true", () -> x.vote(FAILED, 0, true));
            Views.tell(told, "setOwner 2 0 1", () -> x.setOwner(2, 0, 1));
            Views.tell(told, "queue " + FAILED, () -> x.queue(FAILED));
            Views.tell(told, "step", x::step);
            Views.counts(x, told);
            Views.tell(told, "revert " + FAILED, () -> x.revert(FAILED));
            Views.counts(x, told);
        }
    }

    private static void peopleAndDirectories() {
        for (int bad : new int[] {-1, 4, Integer.MIN_VALUE, Integer.MAX_VALUE}) {
            busy("setOwner directory " + bad, INDEX, x -> x.setOwner(bad, 4, 3));
            busy("setFrozen directory " + bad, INDEX, x -> x.setFrozen(bad, true));
            busy("setFrozen to free directory " + bad, INDEX, x -> x.setFrozen(bad, false));
            busy("isGood directory " + bad, INDEX, x -> x.isGood(bad));
            busy("verdict directory " + bad, INDEX, x -> x.verdict(CLASHING, bad));
            busy("asked directory " + bad, INDEX, x -> x.asked(CLASHING, bad));
        }
        for (int bad : new int[] {-1, 6, Integer.MIN_VALUE, Integer.MAX_VALUE}) {
            busy("setOwner owner " + bad, ARGUMENT, x -> x.setOwner(1, bad, 3));
            busy("setOwner stand-in " + bad, ARGUMENT, x -> x.setOwner(1, 4, bad));
            busy("setAway " + bad, ARGUMENT, x -> x.setAway(bad, true));
            busy("setAway back " + bad, ARGUMENT, x -> x.setAway(bad, false));
            busy("open " + bad, ARGUMENT, x -> x.open(bad));
            busy("vote for by " + bad, ARGUMENT, x -> x.vote(CLASHING, bad, true));
            busy("vote against by " + bad, ARGUMENT, x -> x.vote(CLASHING, bad, false));
        }
        for (int p = 0; p < 6; p++) {
            int person = p;
            busy("setOwner twice " + p, ARGUMENT, x -> x.setOwner(1, person, person));
        }
        busy("vote for by the author", ARGUMENT, x -> x.vote(CLASHING, 4, true));
        busy("vote against by the author", ARGUMENT, x -> x.vote(CLASHING, 4, false));
    }

    private static void changesThatAreNotThere() {
        for (int bad : new int[] {-1, CHANGES, 16, 32 + CLASHING, Integer.MIN_VALUE, Integer.MAX_VALUE}) {
            busy("edit " + bad, ELEMENT, x -> x.edit(bad, 0, 0, 1));
            busy("take " + bad, ELEMENT, x -> x.take(bad, 0, 0));
            busy("close " + bad, ELEMENT, x -> x.close(bad));
            busy("vote " + bad, ELEMENT, x -> x.vote(bad, 0, true));
            busy("verdict " + bad, ELEMENT, x -> x.verdict(bad, 0));
            busy("asked " + bad, ELEMENT, x -> x.asked(bad, 0));
            busy("missing " + bad, ELEMENT, x -> x.missing(bad));
            busy("queue " + bad, ELEMENT, x -> x.queue(bad));
            busy("unqueue " + bad, ELEMENT, x -> x.unqueue(bad));
            busy("stateOf " + bad, ELEMENT, x -> x.stateOf(bad));
            busy("hasFailed " + bad, ELEMENT, x -> x.hasFailed(bad));
            busy("clashes " + bad, ELEMENT, x -> x.clashes(bad));
            busy("update " + bad, ELEMENT, x -> x.update(bad));
            busy("valueWith " + bad, ELEMENT, x -> x.valueWith(bad, 0, 0));
            busy("along " + bad, ELEMENT, x -> x.along(bad));
            busy("revert " + bad, ELEMENT, x -> x.revert(bad));
        }
        for (int bad : new int[] {-1, 3, 16, Integer.MIN_VALUE, Integer.MAX_VALUE}) {
            busy("queueAt " + bad, INDEX, x -> x.queueAt(bad));
            busy("mergedAt " + bad, INDEX, x -> x.mergedAt(bad));
        }
    }

    private static void placesAndNumbers() {
        for (int[] bad : new int[][] {{-1, 0}, {16, 0}, {0, -1}, {0, 4}, {-1, 4}, {16, -4}, {1 << 30, 0}}) {
            int f = bad[0];
            int s = bad[1];
            String place = " of " + f + " " + s;
            busy("edit" + place, INDEX, x -> x.edit(CLASHING, f, s, 1));
            busy("take" + place, INDEX, x -> x.take(CLASHING, f, s));
            busy("addTest first" + place, INDEX, x -> x.addTest(f, s, 1, 0, 198));
            busy("addTest second" + place, INDEX, x -> x.addTest(1, 0, f, s, 198));
            busy("value" + place, INDEX, x -> x.value(f, s));
            busy("valueByMerges" + place, INDEX, x -> x.valueByMerges(f, s));
            busy("valueWith" + place, INDEX, x -> x.valueWith(CLASHING, f, s));
        }
        for (int bad : new int[] {-1, 100, Integer.MIN_VALUE, Integer.MAX_VALUE}) {
            busy("edit value " + bad, ARGUMENT, x -> x.edit(CLASHING, 0, 0, bad));
            busy("edit a new span to " + bad, ARGUMENT, x -> x.edit(EMPTY, 0, 0, bad));
        }
        for (int bad : new int[] {-1, 199, Integer.MIN_VALUE, Integer.MAX_VALUE}) {
            busy("addTest limit " + bad, ARGUMENT, x -> x.addTest(1, 0, 1, 1, bad));
        }
    }

    private static void states() {
        for (int n : new int[] {BOTTOM, NEEDED, ON_TOP, FROZEN, CLOSED, REVERTED}) {
            busy("edit in place " + n, STATE, x -> x.edit(n, 0, 0, 1));
            busy("edit " + n, STATE, x -> x.edit(n, 15, 3, 1));
            busy("take an edit " + n, STATE, x -> x.take(n, n == FROZEN ? 12 : 0, n == ON_TOP ? 1 : 0));
            busy("close " + n, STATE, x -> x.close(n));
            busy("vote for " + n, STATE, x -> x.vote(n, 1, true));
            busy("vote against " + n, STATE, x -> x.vote(n, 0, false));
            busy("queue " + n, STATE, x -> x.queue(n));
            busy("update " + n, STATE, x -> x.update(n));
        }
        for (int n : new int[] {BOTTOM, NEEDED, ON_TOP, CLASHING, CLOSED, REVERTED, EMPTY, AGAINST, FAILED}) {
            busy("unqueue " + n, STATE, x -> x.unqueue(n));
        }
        for (int n : new int[] {CLASHING, FROZEN, CLOSED, REVERTED, EMPTY, AGAINST, FAILED}) {
            busy("along " + n, STATE, x -> x.along(n));
            busy("revert " + n, STATE, x -> x.revert(n));
        }
        busy("take no edit", STATE, x -> x.take(CLASHING, 15, 3));
        busy("take from none", STATE, x -> x.take(EMPTY, 0, 0));
        busy("queue without edits", STATE, x -> x.queue(EMPTY));
        busy("queue with a clash", STATE, x -> x.queue(CLASHING));
    }

    private static void verdictsAndSteps() {
        busy("queue with a vote against", UNSUPPORTED, x -> x.queue(AGAINST));
        busy("nothing but frozen", ELEMENT, Branchyard::step);
        refused(RefusalTest::busyWithNobody, "nobody asked", ELEMENT, x -> x.asked(EMPTY, 3));
    }

    private static void tests() {
        for (int bad : new int[] {-1, 2, 3, 12, Integer.MIN_VALUE, Integer.MAX_VALUE}) {
            busy("dropTest " + bad, ELEMENT, x -> x.dropTest(bad));
        }
        busy("addTest that fails", UNSUPPORTED, x -> x.addTest(0, 0, 0, 1, 89));
        busy("addTest that fails at 0", UNSUPPORTED, x -> x.addTest(15, 3, 0, 0, 0));
    }

    /** What has nothing to divide by is refused in rooms that have much else. */
    private static void meansOfNothing() {
        c.due("15 this room has failed changes", true, () -> unmerged().hasFailed(2));
        c.due("19 and clashes", 1, () -> unmerged().clashes(3));
        c.due("30 and results", true, () -> unmerged().builds() > 0);
        refused(RefusalTest::unmerged, "meanEdits of none", ARITHMETIC, Branchyard::meanEdits);
        c.due("28 this room has merged changes", 4, () -> unbuilt().mergedAt(2));
        c.due("19 and clashes", 1, () -> unbuilt().clashes(3));
        refused(RefusalTest::unbuilt, "takenShare of none", ARITHMETIC, Branchyard::takenShare);
    }

    private static void fullRooms() {
        refused(RefusalTest::busyAndFull, "open a 17th", STATE, x -> x.open(2));
        refused(RefusalTest::busyAndFull, "open a 17th by nobody", ARGUMENT, x -> x.open(6));
        refused(RefusalTest::busyAndFull, "addTest a 13th", STATE, x -> x.addTest(15, 0, 15, 0, 198));
        refused(RefusalTest::busyAndFull, "addTest a 13th that fails", STATE, x -> x.addTest(0, 0, 0, 1, 0));
        refused(RefusalTest::busyAndFull, "dropTest 12", ELEMENT, x -> x.dropTest(12));
        refused(RefusalTest::busyAndFull, "stateOf 16", ELEMENT, x -> x.stateOf(16));
    }

    private static void emptyRooms() {
        refused(Branchyard::new, "stateOf of none", ELEMENT, x -> x.stateOf(0));
        refused(Branchyard::new, "dropTest of none", ELEMENT, x -> x.dropTest(0));
        refused(Branchyard::new, "queueAt of none", INDEX, x -> x.queueAt(0));
        refused(Branchyard::new, "mergedAt of none", INDEX, x -> x.mergedAt(0));
        refused(Branchyard::new, "step of none", ELEMENT, Branchyard::step);
        refused(Branchyard::new, "takenShare of none", ARITHMETIC, Branchyard::takenShare);
        refused(Branchyard::new, "meanEdits of none", ARITHMETIC, Branchyard::meanEdits);
    }

    /** A revert that is refused for the trunk that would come of it has built that trunk, and that stays. */
    private static void keptCounts() {
        Branchyard x = busy();
        int builds = x.builds();
        long taken = x.taken();
        c.unsupported("27 a bad trunk", () -> x.revert(NEEDED));
        c.due("30 its build stays counted", builds + 1, x::builds);
        c.due("31 nothing was taken", taken, x::taken);
        c.unsupported("27 the same bad trunk", () -> x.revert(NEEDED));
        c.due("30 its cell was kept", builds + 1, x::builds);
        c.due("31 and the result is taken", taken + 1, x::taken);
        float share = (float) (taken + 1) / (float) (builds + taken + 2);
        c.due("32 the share counts both", share, x::takenShare);

        allButTheCounts();
        addedTestsForget();
    }

    /** Such a room answers all else as one that was not asked to. */
    private static void allButTheCounts() {
        for (Views.View view : VIEWS) {
            Branchyard x = busy();
            c.unsupported("27 a bad trunk", () -> x.revert(NEEDED));
            Map<String, String> got = new LinkedHashMap<>();
            view.ask(x, got);
            Map<String, String> due = new LinkedHashMap<>();
            view.ask(busy(), due);
            due.keySet().removeIf(question -> question.startsWith("builds") || question.startsWith("taken"));
            due.forEach((question, answer) -> c.due("27 after it, " + question, answer, () -> got.get(question)));
        }
    }

    /** Tests that are refused leave the cells as they are; one that is added or dropped empties them. */
    private static void addedTestsForget() {
        Branchyard x = busy();
        c.unsupported("27 a bad trunk", () -> x.revert(NEEDED));
        int builds = x.builds();
        long taken = x.taken();
        c.unsupported("21 a test that fails", () -> x.addTest(0, 0, 0, 1, 89));
        c.badArgument("21 a bad limit", () -> x.addTest(0, 0, 0, 1, 199));
        c.badIndex("21 no place", () -> x.addTest(0, 0, 16, 1, 90));
        c.noElement("22 a dropped test", () -> x.dropTest(2));
        c.unsupported("27 the same trunk", () -> x.revert(NEEDED));
        c.due("31 it is taken", taken + 1, x::taken);
        c.due("21 a test that passes", 3, () -> x.addTest(0, 0, 0, 1, 90));
        c.unsupported("27 the same trunk again", () -> x.revert(NEEDED));
        c.due("30 it is built again", builds + 1, x::builds);
        c.due("22 two are left", 2, () -> x.dropTest(3));
        c.unsupported("27 the same trunk once more", () -> x.revert(NEEDED));
        c.due("30 it is built again", builds + 2, x::builds);
        c.due("31 nothing else is taken", taken + 1, x::taken);
    }
}
