/**
 * "An object is used for at most 512 calls": runs of just as many, in which the calls are as dear as
 * they can be, and the last one is answered by what was kept since the first ones.
 */
final class CallsTest {
    private static final int CALLS = 512;

    private final Check check;
    private final Branchyard x = new Branchyard();
    private final PlainRoom plain = new PlainRoom();
    private int calls;

    private CallsTest(Check check) {
        this.check = check;
    }

    public static void main(String[] args) {
        Check check = new Check("CallsTest");
        new CallsTest(check).manyBuilds();
        new CallsTest(check).mostBuilds();
        new CallsTest(check).manyReverts();
        new CallsTest(check).manyForgotten();
        new CallsTest(check).manyVotes();
        afterAllCalls(check);
        check.end();
    }

    private void both(String call, Check.Call ours, Check.Call theirs) {
        calls++;
        check.due("call " + calls + ", " + call, Check.answerOf(theirs), ours);
    }

    /** Asks until as many calls are left; then makes the last ones, which are due to be as many. */
    private void askUntilLeft(int left) {
        int number = 0;
        while (calls < CALLS - left) {
            int place = number % 64;
            both("value", () -> x.value(place / 4, place % 4), () -> plain.value(place / 4, place % 4));
            number++;
        }
    }

    private void end() {
        check.due("calls in all", CALLS, () -> calls);
    }

    private void edit(int n, int file, int span, int value) {
        both("edit", () -> x.edit(n, file, span, value), () -> plain.edit(n, file, span, value));
    }

    private void queue(int n) {
        both("queue", () -> x.queue(n), () -> plain.queue(n));
    }

    private void step() {
        both("step", x::step, plain::step);
    }

    private void open(int author) {
        both("open", () -> x.open(author), () -> plain.open(author));
    }

    private void revert(int n) {
        both("revert", () -> x.revert(n), () -> plain.revert(n));
    }

    private void addTest(int file, int span, int other, int otherSpan, int limit) {
        both("addTest", () -> x.addTest(file, span, other, otherSpan, limit),
                () -> plain.addTest(file, span, other, otherSpan, limit));
    }

    private void dropTest(int t) {
        both("dropTest", () -> x.dropTest(t), () -> plain.dropTest(t));
    }

    private void counts() {
        both("builds", x::builds, plain::builds);
        both("taken", x::taken, plain::taken);
    }

    /** Nobody is asked about what person 2 changes, so that no calls are needed for votes. */
    private void askNobody() {
        both("setAway", () -> x.setAway(0, true), () -> plain.setAway(0, true));
        for (int d = 0; d < 4; d++) {
            int directory = d;
            both("setOwner", () -> x.setOwner(directory, 0, 2), () -> plain.setOwner(directory, 0, 2));
        }
    }

    /** Three tests of each directory; in the last directory, a value over 5 fails. */
    private void twelveTests() {
        for (int d = 0; d < 4; d++) {
            int file = 4 * d;
            addTest(file, 0, file, 0, d == 3 ? 10 : 198);
            addTest(file, 1, file, 1, d == 3 ? 10 : 198);
            addTest(file, 2, file, 3, d == 3 ? 10 : 198);
        }
    }

    /** Change n edits span n of the first file of each directory. */
    private void editAll(int value) {
        for (int n = 0; n < 4; n++) {
            for (int d = 0; d < 4; d++) {
                edit(n, 4 * d, n, value + n);
            }
        }
    }

    private void failAll() {
        for (int n = 0; n < 4; n++) {
            queue(n);
        }
        step();
    }

    /** A step of four that all fail has 7 tries of 4 results, and each of them is of new inputs here. */
    private void manyBuilds() {
        askNobody();
        twelveTests();
        for (int n = 0; n < 4; n++) {
            open(2);
        }
        int value = 11;
        while (calls + 21 <= CALLS - 24) {
            editAll(value);
            failAll();
            value += 4;
        }
        askUntilLeft(24);
        check.due("each result was built", 28 * ((value - 11) / 4), () -> countOf(x.builds()));
        editAll(11);
        failAll();
        check.due("the last step built nothing", 28 * ((value - 11) / 4), () -> countOf(x.builds()));
        check.due("all was taken, as kept since the first step", 28, () -> countOf((int) x.taken()));
        end();
    }

    /**
     * The most builds that calls are known to give: change n edits a span of directory n, and the tests of
     * each directory read all four spans, so that 9 calls give 28 results of new inputs. All are kept.
     */
    private void mostBuilds() {
        askNobody();
        for (int n = 0; n < 4; n++) {
            open(2);
            for (int other = 0; other < 4; other++) {
                if (other != n) {
                    addTest(4 * n, 0, 4 * other, 0, n == 3 ? 10 : 198);
                }
            }
        }
        int left = 3 * 9 + 2;
        int rounds = 0;
        while (calls + 9 <= CALLS - left) {
            failWith(11 + rounds);
            rounds++;
        }
        askUntilLeft(left);
        // The first inputs, some in the middle, and the last ones.
        failWith(11);
        failWith(11 + rounds / 2);
        failWith(10 + rounds);
        int due = 28 * rounds;
        check.due("the last steps built nothing", due, () -> countOf(x.builds()));
        check.due("all was taken", 3 * 28, () -> countOf((int) x.taken()));
        end();
    }

    private void failWith(int value) {
        for (int n = 0; n < 4; n++) {
            edit(n, 4 * n, 0, value);
        }
        failAll();
    }

    private int countOf(int answer) {
        calls++;
        return answer;
    }

    /** Reverts that are refused build and keep, and are all there are in most of the calls. */
    private void manyReverts() {
        askNobody();
        for (int n = 0; n < 8; n++) {
            open(2);
            edit(n, n, 0, 50);
            queue(n);
        }
        step();
        step();
        for (int n = 8; n < 16; n++) {
            open(2);
            edit(n, n - 8, 0, 0);
            queue(n);
        }
        step();
        step();
        for (int file = 0; file < 8; file++) {
            addTest(file, 0, file, 0, 20);
        }
        int number = 8;
        while (calls < CALLS - 2) {
            revert(number);
            number = number == 15 ? 8 : number + 1;
        }
        counts();
        end();
    }

    /** All tests there can be are added and dropped, so that what was kept is forgotten each time. */
    private void manyForgotten() {
        askNobody();
        for (int n = 0; n < 4; n++) {
            open(2);
        }
        editAll(11);
        for (int t = 0; t < 12; t++) {
            addTest(t == 0 ? 12 : t, 0, 12, t % 4, t == 0 ? 10 : 198);
            failTwice();
        }
        addTest(0, 0, 0, 0, 198);
        for (int t = 11; t >= 0; t--) {
            failTwice();
            dropTest(t);
        }
        dropTest(0);
        queue(0);
        step();
        askUntilLeft(2);
        counts();
        end();
    }

    /** The second time, all results are taken from cells. */
    private void failTwice() {
        for (int time = 0; time < 2; time++) {
            queue(0);
            step();
            counts();
        }
    }

    /** Votes that cover all of 64 edits, of all who may vote, again and again. */
    private void manyVotes() {
        open(2);
        for (int place = 0; place < 64; place++) {
            edit(0, place / 4, place % 4, place);
        }
        int round = 0;
        while (calls < CALLS - 2) {
            int person = round % 6;
            boolean isFor = round % 7 != 0;
            both("vote", () -> x.vote(0, person, isFor), () -> plain.vote(0, person, isFor));
            round++;
        }
        both("missing", () -> x.missing(0), () -> plain.missing(0));
        both("queue", () -> x.queue(0), () -> plain.queue(0));
        end();
    }

    /** What later calls answer is free, but the machine must not throw in them, nor must they keep more and more. */
    private static void afterAllCalls(Check check) {
        Branchyard room = new Branchyard();
        room.setAway(0, true);
        for (int d = 0; d < 4; d++) {
            room.setOwner(d, 0, 2);
        }
        for (int n = 0; n < 4; n++) {
            room.addTest(4 * n, 0, 4 * n, 1, n == 3 ? 10 : 198);
            room.open(2);
        }
        for (int round = 0; round < 5000; round++) {
            int value = 11 + round % 80;
            int other = round / 80;
            String answers = Check.answerOf(() -> {
                for (int d = 0; d < 4; d++) {
                    room.edit(0, 4 * d, 0, value);
                    room.edit(0, 4 * d, 1, other);
                }
                return room.queue(0) + " " + room.step();
            });
            check.due("round " + round, "1 0", () -> answers);
        }
        check.due("still sound", true, room::isSound);
    }
}
