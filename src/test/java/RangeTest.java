/**
 * Each number that the document bounds: at the ends of its range and between them the call is not
 * refused, and just outside on either side, and far off, it is. Each number meets a room of its own.
 */
final class RangeTest {
    private interface Make {
        Branchyard room();
    }

    private interface Use {
        Object answer(Branchyard x, int n);
    }

    private interface Due {
        Object of(int n);
    }

    private static final String ELEMENT = "throws.NoSuchElementException";
    private static final String INDEX = "throws.IndexOutOfBoundsException";
    private static final String ARGUMENT = "throws.IllegalArgumentException";
    private static final String STATE = "throws.IllegalStateException";

    private static final Check c = new Check("RangeTest");

    public static void main(String[] args) {
        people();
        ownerAndStandIn();
        authorsAndVoters();
        directories();
        files();
        spans();
        wrappedPlaces();
        values();
        limits();
        changesOfAnyState();
        changesOfOneState();
        stateOfEachCall();
        tests();
        droppedTests();
        queueIndexes();
        mergedIndexes();
        c.end();
    }

    private static void range(String what, int low, int high, String refusal, Make make, Due due, Use use) {
        for (int n = low; n <= high; n++) {
            int number = n;
            Branchyard x = make.room();
            c.due(what + " " + n, due.of(n), () -> use.answer(x, number));
        }
        for (int n : outside(low, high)) {
            Branchyard x = make.room();
            c.due(what + " " + n, refusal, () -> use.answer(x, n));
        }
    }

    /** Beside the range, a power of two away from it (where shifts and products wrap round), and far off. */
    private static int[] outside(int low, int high) {
        return new int[] {
            low - 1, low - 2, low - 4, low - 16, low - 32, low - 64, low - 256, low - 65536, low - (1 << 30),
            high + 1, high + 2, high + 4, high + 16, high + 32, high + 64, high + 256, high + 65536, high + (1 << 30),
            Math.max(high + 1, 1 << 28), Math.max(high + 1, 1 << 30), Integer.MIN_VALUE, Integer.MIN_VALUE + 1,
            Integer.MAX_VALUE, Integer.MAX_VALUE - 1
        };
    }

    private static void people() {
        range("2 owner", 0, 5, ARGUMENT, Branchyard::new, n -> "0, then " + n,
                (x, n) -> x.setOwner(1, n, n == 5 ? 0 : 5) + ", then " + x.setOwner(1, 0, 1));
        range("2 stand-in", 0, 5, ARGUMENT, () -> Rooms.open(1), n -> "0, then " + n,
                (x, n) -> x.setOwner(0, n == 5 ? 3 : 5, n) + ", then " + standInOf(x, n == 5 ? 3 : 5, n));
        range("3 person", 0, 5, ARGUMENT, Branchyard::new, n -> "false, then true",
                (x, n) -> x.setAway(n, true) + ", then " + x.setAway(n, true));
        range("4 author", 0, 5, ARGUMENT, Branchyard::new, n -> "0, by " + n,
                (x, n) -> x.open(n) + ", by " + authorOf(x));
        range("8 person for", 0, 5, ARGUMENT, () -> Rooms.open(1), n -> n == 2 ? ARGUMENT : 1,
                (x, n) -> x.vote(0, n, true));
        range("8 person against", 0, 5, ARGUMENT, () -> Rooms.open(1), n -> n == 2 ? ARGUMENT : 0,
                (x, n) -> x.vote(0, n, false));
    }

    /** Only the stand-in stands for the owner who is away; the author of change 0 is person 2. */
    private static int standInOf(Branchyard x, int owner, int standIn) {
        x.setAway(owner, true);
        return Check.answerOf(() -> x.asked(0, 0)).equals(ELEMENT) ? 2 : x.asked(0, 0);
    }

    /** Nobody but the author may not vote. */
    private static int authorOf(Branchyard x) {
        for (int person = 0; person < 6; person++) {
            int p = person;
            if (Check.answerOf(() -> x.vote(0, p, true)).equals(ARGUMENT)) {
                return p;
            }
        }
        return -1;
    }

    private static void ownerAndStandIn() {
        for (int owner = 0; owner < 6; owner++) {
            for (int standIn = 0; standIn < 6; standIn++) {
                Branchyard x = new Branchyard();
                int o = owner;
                int s = standIn;
                c.due("2 people " + o + " and " + s, o == s ? ARGUMENT : 0, () -> x.setOwner(2, o, s));
                c.due("2 owner after " + o + " and " + s, o == s ? 0 : o, () -> x.setOwner(2, 0, 1));
            }
        }
        // Both are refused alike, though not the same person.
        Branchyard x = new Branchyard();
        c.badArgument("2 no people, not the same", () -> x.setOwner(0, -1, 6));
        c.badArgument("2 no people, the same", () -> x.setOwner(0, 6, 6));
        c.badArgument("2 no people, the same below", () -> x.setOwner(0, -1, -1));
    }

    private static void authorsAndVoters() {
        for (int author = 0; author < 6; author++) {
            for (int person = 0; person < 6; person++) {
                Branchyard x = new Branchyard();
                int a = author;
                int p = person;
                c.due("4 author " + a, 0, () -> x.open(a));
                x.edit(0, 0, 0, 1);
                c.due("8 author " + a + ", person " + p, a == p ? ARGUMENT : 1, () -> x.vote(0, p, true));
                c.due("8 against, author " + a + ", person " + p, a == p ? ARGUMENT : 0, () -> x.vote(0, p, false));
            }
        }
    }

    private static void directories() {
        range("2 directory", 0, 3, INDEX, Branchyard::new, n -> "0, then 4",
                (x, n) -> x.setOwner(n, 4, 5) + ", then " + x.setOwner(n, 0, 1));
        range("9 directory", 0, 3, INDEX, () -> Rooms.open(1), n -> n == 0 ? 'y' : '-', (x, n) -> x.verdict(0, n));
        range("10 directory", 0, 3, INDEX, () -> Rooms.open(1), n -> 0, (x, n) -> x.asked(0, n));
        range("10 directory, nobody is asked", 0, 3, INDEX, RangeTest::nobodyAsked, n -> ELEMENT,
                (x, n) -> x.asked(0, n));
        range("16 directory", 0, 3, INDEX, Branchyard::new, n -> "false, then true",
                (x, n) -> x.setFrozen(n, true) + ", then " + x.setFrozen(n, false));
        range("16 directory to free", 0, 3, INDEX, Branchyard::new, n -> false, (x, n) -> x.setFrozen(n, false));
        range("29 directory", 0, 3, INDEX, Branchyard::new, n -> true, (x, n) -> x.isGood(n));
        range("29 directory with tests", 0, 3, INDEX, () -> Rooms.tested(12), n -> true, (x, n) -> x.isGood(n));
    }

    private static Branchyard nobodyAsked() {
        Branchyard x = new Branchyard();
        x.open(2);
        for (int d = 0; d < 4; d++) {
            x.setOwner(d, 0, 2);
        }
        x.setAway(0, true);
        return x;
    }

    private static void files() {
        range("5 file", 0, 15, INDEX, () -> Rooms.open(1), n -> n == 0 ? 1 : 2, (x, n) -> x.edit(0, n, 0, 1));
        range("5 file, last span", 0, 15, INDEX, () -> Rooms.open(1), n -> 2, (x, n) -> x.edit(0, n, 3, 1));
        range("6 file", 0, 15, INDEX, RangeTest::editsEverywhere, n -> 63, (x, n) -> x.take(0, n, 0));
        range("6 file, last span", 0, 15, INDEX, RangeTest::editsEverywhere, n -> 63, (x, n) -> x.take(0, n, 3));
        range("21 first file", 0, 15, INDEX, Branchyard::new, n -> 0, (x, n) -> x.addTest(n, 0, 0, 0, 0));
        range("21 second file", 0, 15, INDEX, Branchyard::new, n -> 0, (x, n) -> x.addTest(0, 0, n, 0, 0));
        range("23 file", 0, 15, INDEX, () -> Rooms.merged(16), n -> 10 + n, (x, n) -> x.value(n, 0));
        range("23 file, last span", 0, 15, INDEX, () -> Rooms.merged(16), n -> 0, (x, n) -> x.value(n, 3));
        range("24 file", 0, 15, INDEX, () -> Rooms.merged(16), n -> 10 + n, (x, n) -> x.valueByMerges(n, 0));
        range("24 file, last span", 0, 15, INDEX, () -> Rooms.merged(16), n -> 0, (x, n) -> x.valueByMerges(n, 3));
        range("25 file", 0, 15, INDEX, RangeTest::editsEverywhere, n -> 4 * n, (x, n) -> x.valueWith(0, n, 0));
        range("25 file, last span", 0, 15, INDEX, RangeTest::editsEverywhere, n -> 4 * n + 3,
                (x, n) -> x.valueWith(0, n, 3));
        range("25 file without an edit", 0, 15, INDEX, () -> Rooms.merged(16), n -> n == 7 ? 17 : 10 + n,
                (x, n) -> x.valueWith(7, n, 0));
    }

    /** One change, open, that edits all 64 spans; the value is 4 times the file plus the span. */
    private static Branchyard editsEverywhere() {
        Branchyard x = new Branchyard();
        x.open(2);
        for (int place = 0; place < 64; place++) {
            x.edit(0, place / 4, place % 4, place);
        }
        return x;
    }

    private static void spans() {
        for (int end = 0; end < 16; end += 15) {
            int file = end;
            String of = " of file " + file;
            range("5 span" + of, 0, 3, INDEX, RangeTest::oneOpen, n -> 1, (x, n) -> x.edit(0, file, n, 1));
            range("6 span" + of, 0, 3, INDEX, RangeTest::editsEverywhere, n -> 63, (x, n) -> x.take(0, file, n));
            range("21 first span" + of, 0, 3, INDEX, Branchyard::new, n -> 0,
                    (x, n) -> x.addTest(file, n, 7, 1, 0));
            range("21 second span" + of, 0, 3, INDEX, Branchyard::new, n -> 0,
                    (x, n) -> x.addTest(7, 1, file, n, 0));
            range("23 span" + of, 0, 3, INDEX, () -> Rooms.merged(16), n -> n == 0 ? 10 + file : 0,
                    (x, n) -> x.value(file, n));
            range("24 span" + of, 0, 3, INDEX, () -> Rooms.merged(16), n -> n == 0 ? 10 + file : 0,
                    (x, n) -> x.valueByMerges(file, n));
            range("25 span" + of, 0, 3, INDEX, RangeTest::editsEverywhere, n -> 4 * file + n,
                    (x, n) -> x.valueWith(0, file, n));
        }
    }

    private static Branchyard oneOpen() {
        Branchyard x = new Branchyard();
        x.open(2);
        return x;
    }

    /** Places that four times the file plus the span would bring back among the 64. */
    private static void wrappedPlaces() {
        int[][] places = {
            {-1, 4}, {0, 4}, {1, -1}, {16, -1}, {16, -4}, {15, 4}, {15, 7}, {0, 63}, {-15, 60}, {1 << 30, 0},
            {(1 << 30) + 5, 2}, {-(1 << 30), 3}, {Integer.MIN_VALUE, 0}, {Integer.MAX_VALUE, 4}, {0, -1}, {-1, -1},
            {16, 4}, {Integer.MAX_VALUE, Integer.MAX_VALUE}, {Integer.MIN_VALUE, Integer.MIN_VALUE}
        };
        Branchyard x = editsEverywhere();
        for (int[] p : places) {
            String place = " place " + p[0] + " " + p[1];
            c.badIndex("5" + place, () -> x.edit(0, p[0], p[1], 1));
            c.badIndex("6" + place, () -> x.take(0, p[0], p[1]));
            c.badIndex("21 first" + place, () -> x.addTest(p[0], p[1], 0, 0, 0));
            c.badIndex("21 second" + place, () -> x.addTest(0, 0, p[0], p[1], 0));
            c.badIndex("23" + place, () -> x.value(p[0], p[1]));
            c.badIndex("24" + place, () -> x.valueByMerges(p[0], p[1]));
            c.badIndex("25" + place, () -> x.valueWith(0, p[0], p[1]));
        }
    }

    private static void values() {
        range("5 value", 0, 99, ARGUMENT, RangeTest::oneOpen, n -> "1 of " + n,
                (x, n) -> x.edit(0, 15, 3, n) + " of " + x.valueWith(0, 15, 3));
        range("5 value in place of another", 0, 99, ARGUMENT, () -> Rooms.open(1), n -> "1 of " + n,
                (x, n) -> x.edit(0, 0, 0, n) + " of " + x.valueWith(0, 0, 0));
    }

    private static void limits() {
        range("21 limit", 0, 198, ARGUMENT, Branchyard::new, n -> 0, (x, n) -> x.addTest(0, 0, 0, 1, n));
        range("21 limit, the same span", 0, 198, ARGUMENT, Branchyard::new, n -> 0,
                (x, n) -> x.addTest(15, 3, 15, 3, n));
    }

    /** The calls that answer in each state, for a room without changes, with one, with all but one, and full. */
    private static void changesOfAnyState() {
        for (int size : new int[] {0, 1, 15, 16}) {
            int last = size - 1;
            String of = " of " + size;
            Make room = () -> Rooms.open(size);
            range("5 change" + of, 0, last, ELEMENT, room, n -> 2, (x, n) -> x.edit(n, 0, 3, 1));
            range("6 change" + of, 0, last, ELEMENT, room, n -> 0, (x, n) -> x.take(n, n, 0));
            range("7 change" + of, 0, last, ELEMENT, room, n -> 1, (x, n) -> x.close(n));
            range("8 change" + of, 0, last, ELEMENT, room, n -> 1, (x, n) -> x.vote(n, 5, true));
            range("9 change" + of, 0, last, ELEMENT, room, n -> 'y', (x, n) -> x.verdict(n, Math.floorMod(n, 16) / 4));
            range("10 change" + of, 0, last, ELEMENT, room, n -> 0, (x, n) -> x.asked(n, 3));
            range("11 change" + of, 0, last, ELEMENT, room, n -> 0, (x, n) -> x.missing(n));
            range("12 change" + of, 0, last, ELEMENT, room, n -> 1, (x, n) -> x.queue(n));
            range("17 change" + of, 0, last, ELEMENT, room, n -> 'o', (x, n) -> x.stateOf(n));
            range("18 change" + of, 0, last, ELEMENT, room, n -> false, (x, n) -> x.hasFailed(n));
            range("19 change" + of, 0, last, ELEMENT, room, n -> 0, (x, n) -> x.clashes(n));
            range("20 change" + of, 0, last, ELEMENT, room, n -> 0, (x, n) -> x.update(n));
            range("25 change" + of, 0, last, ELEMENT, room, n -> 10 + n, (x, n) -> x.valueWith(n, n, 0));
        }
    }

    /** The calls that a change must be queued or merged for. */
    private static void changesOfOneState() {
        for (int size : new int[] {0, 1, 15, 16}) {
            int last = size - 1;
            String of = " of " + size;
            range("13 change" + of, 0, last, ELEMENT, () -> Rooms.queued(size), n -> last, (x, n) -> x.unqueue(n));
            range("26 change" + of, 0, last, ELEMENT, () -> Rooms.merged(size), n -> 1, (x, n) -> x.along(n));
            range("27 change" + of, 0, last, ELEMENT, () -> Rooms.merged(size), n -> 1, (x, n) -> x.revert(n));
        }
    }

    /** The answers for an open, a queued, a merged, a closed and a reverted change, in this order. */
    private static void eachState(String what, Object open, Object queued, Object merged, Object closed,
            Object reverted, Use use) {
        Object[] due = {open, queued, merged, closed, reverted};
        for (int n = 0; n < due.length; n++) {
            int number = n;
            Branchyard x = Rooms.withEachState();
            c.due(what + " of state " + x.stateOf(n), due[n], () -> use.answer(x, number));
        }
    }

    private static void stateOfEachCall() {
        eachState("5 edit", 2, STATE, STATE, STATE, STATE, (x, n) -> x.edit(n, 9, 0, 1));
        eachState("5 edit in place", 1, STATE, STATE, STATE, STATE, (x, n) -> x.edit(n, n, 3, 1));
        eachState("6 take", 0, STATE, STATE, STATE, STATE, (x, n) -> x.take(n, n, 3));
        eachState("6 take without an edit", STATE, STATE, STATE, STATE, STATE, (x, n) -> x.take(n, n, 2));
        eachState("7 close", 1, STATE, STATE, STATE, STATE, (x, n) -> x.close(n));
        eachState("8 vote for", 1, STATE, STATE, STATE, STATE, (x, n) -> x.vote(n, 0, true));
        eachState("8 vote against", 0, STATE, STATE, STATE, STATE, (x, n) -> x.vote(n, 0, false));
        eachState("9 verdict", 'y', 'y', 'y', 'y', 'y', (x, n) -> x.verdict(n, n / 4));
        eachState("10 asked", 0, 0, 0, 0, 0, (x, n) -> x.asked(n, 3));
        eachState("11 missing", 0, 0, 0, 0, 0, (x, n) -> x.missing(n));
        eachState("12 queue", 2, STATE, STATE, STATE, STATE, (x, n) -> x.queue(n));
        eachState("13 unqueue", STATE, 0, STATE, STATE, STATE, (x, n) -> x.unqueue(n));
        eachState("17 stateOf", 'o', 'q', 'm', 'x', 'v', (x, n) -> x.stateOf(n));
        eachState("18 hasFailed", false, false, false, false, false, (x, n) -> x.hasFailed(n));
        eachState("19 clashes", 0, 0, 0, 0, 0, (x, n) -> x.clashes(n));
        eachState("20 update", 0, STATE, STATE, STATE, STATE, (x, n) -> x.update(n));
        eachState("25 valueWith", 20, 21, 22, 23, 24, (x, n) -> x.valueWith(n, n, 3));
        eachState("26 along", STATE, STATE, 1, STATE, STATE, (x, n) -> x.along(n));
        eachState("27 revert", STATE, STATE, 1, STATE, STATE, (x, n) -> x.revert(n));
    }

    private static void tests() {
        for (int size : new int[] {0, 1, 2, 11, 12}) {
            range("22 test of " + size, 0, size - 1, ELEMENT, () -> Rooms.tested(size), n -> size - 1,
                    (x, n) -> x.dropTest(n));
        }
    }

    private static void droppedTests() {
        for (int n = 0; n < 12; n++) {
            int number = n;
            Branchyard x = Rooms.tested(12);
            c.due("22 drop " + n, 11, () -> x.dropTest(number));
            c.noElement("22 dropped " + n, () -> x.dropTest(number));
            c.due("22 the other end is there", 10, () -> x.dropTest(number < 6 ? 11 : 0));
        }
    }

    private static void queueIndexes() {
        for (int size = 0; size <= 16; size++) {
            int count = size;
            range("14 index of " + size, 0, size - 1, INDEX, () -> Rooms.queued(count), n -> n,
                    (x, n) -> x.queueAt(n));
        }
        // What has left the queue leaves no index behind.
        Branchyard x = Rooms.queued(16);
        for (int left = 15; left >= 0; left--) {
            int size = left;
            x.unqueue(left);
            c.badIndex("14 index " + left + " after unqueue", () -> x.queueAt(size));
        }
    }

    private static void mergedIndexes() {
        for (int size = 0; size <= 16; size++) {
            int count = size;
            range("28 index of " + size, 0, size - 1, INDEX, () -> Rooms.merged(count), n -> n,
                    (x, n) -> x.mergedAt(n));
        }
        // What is reverted leaves no index behind.
        Branchyard x = Rooms.merged(16);
        for (int left = 15; left >= 0; left--) {
            int size = left;
            x.revert(left);
            c.badIndex("28 index " + left + " after revert", () -> x.mergedAt(size));
        }
    }
}
