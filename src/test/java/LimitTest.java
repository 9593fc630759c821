/**
 * What the document bounds in its part "Terms", and what it says of empty and of full: each sentence
 * that names such a case, at the case itself and on both sides of it.
 */
final class LimitTest {
    private static final Check c = new Check("LimitTest");

    public static void main(String[] args) {
        atMost16Changes();
        atMost12Tests();
        atMostOneEditOfASpan();
        until4AreTaken();
        until4AreTakenPastOthers();
        noneCanBeTaken();
        halvesByBuilds();
        halvesOfThree();
        halvesOfFour();
        singles();
        notGreaterThanItsLimit();
        theSameSpanTwice();
        directoryOfTheFirstSpan();
        directoriesOfFiles();
        trueWithoutTests();
        untilOneIsNotGood();
        noneTaken();
        noneMerged();
        noVerdictMissing();
        onlyTheLastVote();
        overAndOver();
        c.end();
    }

    /** "At most 16 changes are numbered from 0": whatever has become of those that there are. */
    private static void atMost16Changes() {
        Branchyard x = Rooms.open(15);
        c.due("4 the 16th", 15, () -> x.open(5));
        c.badState("4 the 17th", () -> x.open(5));
        c.due("4 the 16th is there", 'o', () -> x.stateOf(15));
        c.noElement("4 the 17th is not", () -> x.stateOf(16));
        for (int n = 0; n < 16; n++) {
            x.close(n);
        }
        c.badState("4 closed ones are changes, too", () -> x.open(5));

        Branchyard y = Rooms.merged(16);
        c.badState("4 merged ones, too", () -> y.open(5));
        for (int n = 0; n < 16; n++) {
            y.revert(n);
        }
        c.badState("4 reverted ones, too", () -> y.open(5));
        c.badState("4 again", () -> y.open(0));
    }

    /** "At most 12 tests can be added": one that was dropped counts no more, but was added. */
    private static void atMost12Tests() {
        Branchyard x = Rooms.tested(11);
        c.due("21 the 12th", 11, () -> x.addTest(15, 3, 15, 3, 0));
        c.badState("21 the 13th", () -> x.addTest(15, 3, 15, 3, 0));
        for (int t = 11; t >= 0; t--) {
            int test = t;
            c.due("22 left", test, () -> x.dropTest(test));
            c.badState("21 dropped ones were added", () -> x.addTest(15, 3, 15, 3, 0));
        }
        c.noElement("22 none left", () -> x.dropTest(11));

        // Those that are refused were not added.
        Branchyard y = new Branchyard();
        Rooms.merged(y, 2, 0, 0, 1);
        for (int i = 0; i < 20; i++) {
            c.unsupported("21 refused", () -> y.addTest(0, 0, 0, 0, 1));
        }
        for (int i = 0; i < 12; i++) {
            int test = i;
            c.due("21 number", test, () -> y.addTest(0, 0, 0, 0, 2));
        }
        c.badState("21 the 13th of these", () -> y.addTest(0, 0, 0, 0, 2));
        // All twelve count: the last one, and the first one, too.
        Branchyard z = new Branchyard();
        for (int i = 0; i < 12; i++) {
            z.addTest(i, 0, i, 0, 100);
        }
        int last = Rooms.queued(z, 2, 11, 0, 51);
        int first = Rooms.queued(z, 2, 0, 0, 51);
        c.due("21 both fail", 0, z::step);
        c.due("21 the 12th", true, () -> z.hasFailed(last));
        c.due("21 the first", true, () -> z.hasFailed(first));
    }

    /** "It has at most one edit of a span": so it has at most 64 edits. */
    private static void atMostOneEditOfASpan() {
        Branchyard x = new Branchyard();
        x.open(2);
        for (int place = 0; place < 64; place++) {
            int p = place;
            c.due("5 edit " + p, p + 1, () -> x.edit(0, p / 4, p % 4, 1));
            c.due("5 edit again " + p, p + 1, () -> x.edit(0, p / 4, p % 4, 2));
        }
        c.due("8 all of them", 64, () -> x.vote(0, 0, true));
        c.due("12 queued", 1, () -> x.queue(0));
        c.due("15 merged", 1, x::step);
        c.due("33 mean", 64.0, x::meanEdits);
        c.due("23 the last value", 2, () -> x.value(15, 3));
        x.open(2);
        x.edit(1, 0, 0, 1);
        c.due("6 none left", 0, () -> x.take(1, 0, 0));
        c.badState("6 nor one more", () -> x.take(1, 0, 0));
        c.due("8 a vote for none", 0, () -> x.vote(1, 0, true));
        c.badState("12 no edits", () -> x.queue(1));
        c.due("7 none at the end", 0, () -> x.close(1));
    }

    /** "Until 4 are taken": of fewer, all; of more, the first four. */
    private static void until4AreTaken() {
        for (int size = 1; size <= 16; size++) {
            Branchyard x = Rooms.queued(size);
            int merged = Math.min(size, 4);
            String of = " of " + size;
            c.due("15 taken" + of, merged, x::step);
            for (int n = 0; n < size; n++) {
                int number = n;
                c.due("17 change " + n + of, n < 4 ? 'm' : 'q', () -> x.stateOf(number));
            }
            for (int left = size - merged; left > 0; left -= 4) {
                c.due("15 the next" + of, Math.min(left, 4), x::step);
            }
            c.noElement("15 none left" + of, x::step);
            for (int n = 0; n < size; n++) {
                int number = n;
                c.due("28 in their order" + of, number, () -> x.mergedAt(number));
            }
            int all = size;
            c.badIndex("28 no more" + of, () -> x.mergedAt(all));
        }
    }

    /** Those that are passed over do not count as taken, and those behind the fourth are not looked at. */
    private static void until4AreTakenPastOthers() {
        Branchyard x = new Branchyard();
        x.setFrozen(3, true);
        int frozen = Rooms.queued(x, 2, 12, 0, 1);
        int first = Rooms.queued(x, 2, 0, 0, 1);
        int meets = Rooms.queued(x, 2, 0, 0, 2, 0, 1, 2);
        int second = Rooms.queued(x, 2, 0, 1, 3);
        int third = Rooms.queued(x, 2, 0, 2, 4);
        int both = Rooms.queued(x, 2, 15, 3, 5, 0, 3, 5);
        int fourth = Rooms.queued(x, 2, 0, 3, 6);
        int fifth = Rooms.queued(x, 2, 1, 0, 7);
        int late = Rooms.queued(x, 2, 0, 0, 8);
        c.due("15 four are taken", 4, x::step);
        String due = "qmommomqo";
        int[] numbers = {frozen, first, meets, second, third, both, fourth, fifth, late};
        for (int i = 0; i < numbers.length; i++) {
            int number = numbers[i];
            c.due("17 change " + i, due.charAt(i), () -> x.stateOf(number));
        }
        c.due("19 clashes of one passed over", 2, () -> x.clashes(meets));
        c.due("19 clashes of a frozen one", 1, () -> x.clashes(both));
        c.due("19 clashes of one not looked at", 1, () -> x.clashes(late));
        c.due("18 it has not failed", false, () -> x.hasFailed(late));
        c.due("14 the frozen one is first", frozen, () -> x.queueAt(0));
        c.due("14 then the fifth", fifth, () -> x.queueAt(1));
        c.badIndex("14 and no more", () -> x.queueAt(2));
        c.due("15 one is left", 1, x::step);
        c.noElement("15 but the frozen one", x::step);
    }

    /** "If no queued change can be taken": none is queued, or all are frozen. */
    private static void noneCanBeTaken() {
        Branchyard x = new Branchyard();
        c.noElement("15 no changes", x::step);
        Rooms.change(x, 2, 0, 0, 1, 15, 0, 1);
        c.noElement("15 none queued", x::step);
        x.queue(0);
        for (int touched = 0; touched < 4; touched += 3) {
            x.setFrozen(touched, true);
            c.noElement("15 frozen " + touched, x::step);
            c.due("17 it stays queued", 'q', () -> x.stateOf(0));
            x.setFrozen(touched, false);
        }
        x.setFrozen(1, true);
        x.setFrozen(2, true);
        c.due("15 it touches neither", 1, x::step);
        c.noElement("15 merged", x::step);
    }

    /** Each try of a batch has inputs of its own, so the builds count the tries; all changes fail. */
    private static void halvesByBuilds() {
        int[] tries = {0, 1, 3, 5, 7};
        for (int size = 1; size <= 4; size++) {
            Branchyard x = new Branchyard();
            for (int n = 0; n < size; n++) {
                x.addTest(0, n, 0, n, 10);
            }
            for (int n = 0; n < size; n++) {
                Rooms.queued(x, 2, 0, n, 6 + n);
            }
            c.due("15 none of " + size, 0, x::step);
            c.due("30 tries of " + size, tries[size], x::builds);
            for (int n = 0; n < size; n++) {
                int number = n;
                c.due("18 failed " + n + " of " + size, true, () -> x.hasFailed(number));
                c.due("17 open " + n + " of " + size, 'o', () -> x.stateOf(number));
                c.due("19 clashes " + n + " of " + size, 0, () -> x.clashes(number));
            }
            c.badIndex("14 none queued of " + size, () -> x.queueAt(0));
            c.badIndex("28 none merged of " + size, () -> x.mergedAt(0));
        }
    }

    /** "The first half, the smaller one if their number is odd": one of three, then two. */
    private static void halvesOfThree() {
        // All three are tried, the first alone, the others, and, if these are bad, each of them alone.
        int[] tries = {3, 5, 5};
        // A rest upon what was merged of the first half has the inputs of all, and so takes the result.
        int[] builds = {3, 4, 3};
        for (int bad = 0; bad < 3; bad++) {
            Branchyard x = new Branchyard();
            x.addTest(0, bad, 0, bad, 10);
            x.addTest(1, 0, 1, 1, 198);
            x.addTest(1, 2, 1, 2, 198);
            for (int n = 0; n < 3; n++) {
                Rooms.queued(x, 2, 0, n, 6, 1, n, 1 + n);
            }
            c.due("15 two of three, bad " + bad, 2, x::step);
            c.due("30 builds, bad " + bad, builds[bad], x::builds);
            c.due("31 the other tries, bad " + bad, (long) tries[bad] - builds[bad], x::taken);
            for (int n = 0; n < 3; n++) {
                int number = n;
                c.due("17 bad " + bad + ", change " + n, n == bad ? 'o' : 'm', () -> x.stateOf(number));
                c.due("18 bad " + bad + ", change " + n, n == bad, () -> x.hasFailed(number));
            }
            c.due("28 in order, bad " + bad, bad == 0 ? 1 : 0, () -> x.mergedAt(0));
            c.due("28 then, bad " + bad, bad == 2 ? 1 : 2, () -> x.mergedAt(1));
        }
    }

    /** Of four, two and two; of two, one and one; the rest is tried on what the first half has left. */
    private static void halvesOfFour() {
        int[] builds = {5, 4, 4, 3};
        for (int bad = 0; bad < 4; bad++) {
            Branchyard x = new Branchyard();
            x.addTest(0, bad, 0, bad, 10);
            x.addTest(1, 0, 1, 1, 198);
            x.addTest(1, 2, 1, 3, 198);
            for (int n = 0; n < 4; n++) {
                Rooms.queued(x, 2, 0, n, 6, 1, n, 1 + n);
            }
            c.due("15 three of four, bad " + bad, 3, x::step);
            c.due("30 builds, bad " + bad, builds[bad], x::builds);
            c.due("31 the other tries, bad " + bad, 5L - builds[bad], x::taken);
            for (int n = 0; n < 4; n++) {
                int number = n;
                c.due("18 bad " + bad + ", change " + n, n == bad, () -> x.hasFailed(number));
            }
            c.due("28 in order, bad " + bad, bad == 0 ? 1 : 0, () -> x.mergedAt(0));
            c.due("28 last, bad " + bad, bad == 3 ? 2 : 3, () -> x.mergedAt(2));
            c.badIndex("28 no more, bad " + bad, () -> x.mergedAt(3));
        }
        // The first half takes the room that the rest would have had.
        Branchyard y = new Branchyard();
        y.addTest(0, 0, 0, 2, 10);
        Rooms.queued(y, 2, 0, 0, 6);
        Rooms.queued(y, 2, 0, 1, 6);
        Rooms.queued(y, 2, 0, 2, 6);
        Rooms.queued(y, 2, 0, 3, 6);
        c.due("15 three have room", 3, y::step);
        c.due("18 the third has none", true, () -> y.hasFailed(2));
        c.due("17 the fourth has", 'm', () -> y.stateOf(3));
    }

    /** "A single one is open again and has failed": it can be queued again, behind the others. */
    private static void singles() {
        Branchyard x = new Branchyard();
        x.addTest(0, 0, 0, 0, 10);
        x.setFrozen(3, true);
        Rooms.queued(x, 2, 0, 0, 6);
        Rooms.queued(x, 2, 12, 0, 1);
        c.due("15 nothing merged", 0, x::step);
        c.due("17 open", 'o', () -> x.stateOf(0));
        c.due("14 it left the queue", 1, () -> x.queueAt(0));
        c.badIndex("14 which has one", () -> x.queueAt(1));
        c.due("9 its votes stay", 'y', () -> x.verdict(0, 0));
        c.due("12 queued again", 2, () -> x.queue(0));
        c.due("14 behind", 0, () -> x.queueAt(1));
        c.due("15 fails again", 0, x::step);
        c.due("31 taken from the cell", 1L, x::taken);
        x.edit(0, 0, 0, 5);
        x.vote(0, 0, true);
        x.queue(0);
        c.due("15 merged at the limit", 1, x::step);
        c.due("18 failed no more", false, () -> x.hasFailed(0));
    }

    /** "Passes if the sum of their values is not greater than its limit". */
    private static void notGreaterThanItsLimit() {
        for (int limit : new int[] {0, 1, 97, 98, 99, 100, 197, 198}) {
            for (int over = -1; over <= 1; over++) {
                int sum = limit + over;
                int first = Math.min(99, sum);
                int second = sum - first;
                if (sum < 0 || second > 99) {
                    continue;
                }
                Branchyard x = new Branchyard();
                x.addTest(0, 0, 15, 3, limit);
                Rooms.queued(x, 2, 0, 0, first, 15, 3, second);
                c.due("15 sum " + sum + ", limit " + limit, over > 0 ? 0 : 1, x::step);
                c.due("29 always good", true, () -> x.isGood(0));
                Branchyard y = new Branchyard();
                Rooms.merged(y, 2, 0, 0, first, 15, 3, second);
                c.due("21 sum " + sum + ", limit " + limit, over > 0 ? "throws.UnsupportedOperationException" : 0,
                        () -> y.addTest(15, 3, 0, 0, limit));
            }
        }
    }

    /** "Two spans, which may be the same": its value then counts twice. */
    private static void theSameSpanTwice() {
        for (int value : new int[] {49, 50}) {
            Branchyard x = new Branchyard();
            x.addTest(7, 2, 7, 2, 99);
            Rooms.queued(x, 2, 7, 2, value);
            c.due("15 twice " + value, value == 49 ? 1 : 0, x::step);
        }
        Branchyard y = new Branchyard();
        y.addTest(7, 2, 7, 2, 198);
        Rooms.queued(y, 2, 7, 2, 99);
        c.due("15 the highest value twice", 1, y::step);
        c.unsupported("21 not under it", () -> y.addTest(7, 2, 7, 2, 197));
    }

    /** "It belongs to the directory of the file of the first one": that one is built, not the other. */
    private static void directoryOfTheFirstSpan() {
        for (int file = 0; file < 16; file++) {
            Branchyard x = new Branchyard();
            int other = (file + 4) % 16;
            x.addTest(file, 0, other, 0, 198);
            x.addTest(file, 1, other, 1, 198);
            Rooms.merged(x, 2, file, 2, 1);
            c.due("30 one directory has tests", 1, x::builds);
            Rooms.merged(x, 2, other, 1, 1);
            c.due("30 an input that lies elsewhere", 2, x::builds);
            c.due("31 none taken", 0L, x::taken);
            // A test of the other directory makes two.
            x.addTest(other, 0, file, 0, 198);
            Rooms.merged(x, 2, file, 2, 2);
            c.due("30 two directories have tests", 4, x::builds);
        }
    }

    /** "File f is in the directory f divided by 4". */
    private static void directoriesOfFiles() {
        for (int file = 0; file < 16; file++) {
            for (int span = 0; span < 4; span += 3) {
                Branchyard x = new Branchyard();
                x.open(2);
                x.edit(0, file, span, 1);
                for (int d = 0; d < 4; d++) {
                    int directory = d;
                    c.due("9 file " + file + ", directory " + d, file / 4 == d ? '?' : '-',
                            () -> x.verdict(0, directory));
                }
            }
        }
    }

    /** "True without tests": as at first, after all are dropped, and beside a directory with tests. */
    private static void trueWithoutTests() {
        Branchyard x = new Branchyard();
        Rooms.merged(x, 2, 0, 0, 99, 15, 3, 99);
        allGood(x, "no tests");
        c.due("30 nothing built without tests", 0, x::builds);
        c.badArithmetic("32 so there were no results", x::takenShare);
        x.addTest(15, 3, 0, 0, 198);
        allGood(x, "one test, at its limit");
        x.dropTest(0);
        allGood(x, "the test dropped");
        Rooms.merged(x, 2, 1, 1, 1);
        c.due("30 dropped tests are not built", 0, x::builds);
        c.due("31 nor taken", 0L, x::taken);
        c.badArithmetic("32 still no results", x::takenShare);
    }

    private static void allGood(Branchyard x, String when) {
        for (int d = 0; d < 4; d++) {
            int directory = d;
            c.due("29 directory " + d + ", " + when, true, () -> x.isGood(directory));
        }
        c.due("34 " + when, true, x::isSound);
    }

    /** "Built by rising numbers, until one of them is not good": for each that is the first bad one. */
    private static void untilOneIsNotGood() {
        for (int bad = 0; bad < 4; bad++) {
            Branchyard x = new Branchyard();
            for (int d = 3; d >= 0; d--) {
                x.addTest(4 * d, 0, 4 * d, 1, 10);
            }
            Rooms.queued(x, 2, 4 * bad, 0, 11, 12, 0, 11);
            c.due("15 fails, bad " + bad, 0, x::step);
            c.due("30 built up to " + bad, bad + 1, x::builds);
            x.queue(0);
            c.due("15 fails again, bad " + bad, 0, x::step);
            c.due("31 taken up to " + bad, bad + 1L, x::taken);
            c.due("30 nothing else, bad " + bad, bad + 1, x::builds);
            c.due("32 half, bad " + bad, 0.5f, x::takenShare);
        }
    }

    /** "If there were none": no results, of builds or of cells; one is enough. */
    private static void noneTaken() {
        Branchyard x = new Branchyard();
        c.badArithmetic("32 new", x::takenShare);
        x.addTest(0, 0, 0, 0, 10);
        c.badArithmetic("32 with a test", x::takenShare);
        c.due("29 asked, not built", true, () -> x.isGood(0));
        c.due("34 asked, not built", true, x::isSound);
        c.badArithmetic("32 asking builds nothing", x::takenShare);
        Rooms.queued(x, 2, 0, 0, 6);
        c.badArithmetic("32 queued only", x::takenShare);
        c.due("15 fails", 0, x::step);
        c.due("32 one result, of a build", 0.0f, x::takenShare);
        for (int i = 1; i <= 20; i++) {
            int taken = i;
            x.queue(0);
            x.step();
            c.due("32 taken " + i, (float) taken / (float) (taken + 1), x::takenShare);
        }
        x.dropTest(0);
        c.due("32 results of dropped tests count", 20.0f / 21.0f, x::takenShare);

        // A refused revert gives the first result.
        Branchyard y = new Branchyard();
        Rooms.merged(y, 2, 0, 0, 90);
        Rooms.merged(y, 2, 0, 0, 10);
        y.addTest(0, 0, 0, 0, 50);
        c.badArithmetic("32 no test then", y::takenShare);
        c.unsupported("27 refused", () -> y.revert(1));
        c.due("32 one result", 0.0f, y::takenShare);
        c.unsupported("27 refused again", () -> y.revert(1));
        c.due("32 two results", 0.5f, y::takenShare);
    }

    /** "If there are none": no changes that are merged and not reverted. */
    private static void noneMerged() {
        Branchyard x = new Branchyard();
        c.badArithmetic("33 new", x::meanEdits);
        x.addTest(0, 0, 0, 0, 10);
        Rooms.change(x, 2, 0, 0, 6);
        c.badArithmetic("33 open", x::meanEdits);
        x.queue(0);
        c.badArithmetic("33 queued", x::meanEdits);
        x.step();
        c.badArithmetic("33 failed", x::meanEdits);
        x.close(0);
        c.badArithmetic("33 closed", x::meanEdits);
        Rooms.merged(x, 2, 1, 0, 6, 1, 1, 6, 1, 2, 6);
        c.due("33 one", 3.0, x::meanEdits);
        Rooms.merged(x, 2, 2, 0, 6);
        c.due("33 two", 2.0, x::meanEdits);
        Rooms.merged(x, 2, 3, 0, 6, 3, 1, 6, 3, 2, 6, 3, 3, 6);
        c.due("33 three", 8.0 / 3.0, x::meanEdits);
        x.revert(1);
        c.due("33 two of three", 2.5, x::meanEdits);
        x.revert(3);
        c.due("33 one is left", 1.0, x::meanEdits);
        x.revert(2);
        c.badArithmetic("33 all reverted", x::meanEdits);
        c.badIndex("28 all reverted", () -> x.mergedAt(0));
    }

    /** 'f' and '-' keep no change from the queue, not even in all directories at once. */
    private static void noVerdictMissing() {
        Branchyard x = new Branchyard();
        x.setAway(0, true);
        for (int d = 0; d < 4; d++) {
            x.setOwner(d, 0, 2);
        }
        x.open(2);
        for (int d = 0; d < 4; d++) {
            int file = 4 * d + 3;
            x.edit(0, file, 3, 99);
        }
        c.due("11 nobody is asked", 0, () -> x.missing(0));
        x.setAway(0, false);
        c.due("11 all are missing", 4, () -> x.missing(0));
        c.unsupported("12 all are missing", () -> x.queue(0));
        x.setOwner(0, 2, 5);
        c.due("11 the owner is the author", 4, () -> x.missing(0));
        c.due("10 so the stand-in is asked", 5, () -> x.asked(0, 0));
        x.vote(0, 0, true);
        c.due("11 one is missing", 1, () -> x.missing(0));
        c.unsupported("12 one is missing", () -> x.queue(0));
        x.vote(0, 5, true);
        c.due("11 none is missing", 0, () -> x.missing(0));
        c.due("12 none is missing", 1, () -> x.queue(0));
    }

    /** A vote against takes all of the cover away, and one for what is there now gives just that. */
    private static void onlyTheLastVote() {
        Branchyard x = new Branchyard();
        x.open(5);
        x.edit(0, 0, 0, 0);
        x.edit(0, 15, 3, 99);
        c.due("8 covers two", 2, () -> x.vote(0, 0, true));
        x.take(0, 15, 3);
        c.due("8 covers one", 1, () -> x.vote(0, 0, true));
        x.edit(0, 15, 3, 99);
        c.due("9 the vote before counts no more", 's', () -> x.verdict(0, 3));
        c.due("9 the last one covers it", 'y', () -> x.verdict(0, 0));
        c.due("8 covers none", 0, () -> x.vote(0, 0, false));
        c.due("9 against, where one was covered", 'n', () -> x.verdict(0, 0));
        c.due("9 against everywhere", 'n', () -> x.verdict(0, 3));
        c.due("8 covers two again", 2, () -> x.vote(0, 0, true));
        c.due("11 none missing", 0, () -> x.missing(0));
    }

    /** A chain of 16, each on top of the one before: the first takes all along, the last none. */
    private static void overAndOver() {
        Branchyard x = new Branchyard();
        for (int n = 0; n < 16; n++) {
            Rooms.merged(x, 2, n, 0, 1, (n + 1) % 16, 0, 2);
        }
        for (int n = 0; n < 16; n++) {
            int number = n;
            c.due("26 from " + n, 16 - n, () -> x.along(number));
        }
        c.due("27 the last alone", 1, () -> x.revert(15));
        c.badState("27 it is reverted", () -> x.revert(15));
        c.due("26 one fewer", 15, () -> x.along(0));
        c.due("27 from the middle", 7, () -> x.revert(8));
        c.due("28 eight are left", 7, () -> x.mergedAt(7));
        c.badIndex("28 no ninth", () -> x.mergedAt(8));
        c.due("27 all of them", 8, () -> x.revert(0));
        c.badIndex("28 none is left", () -> x.mergedAt(0));
        for (int file = 0; file < 16; file++) {
            int f = file;
            c.due("23 the values of the start", 0, () -> x.value(f, 0));
        }
        c.due("34 sound", true, x::isSound);
    }
}
