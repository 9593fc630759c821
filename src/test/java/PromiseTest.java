/** Each promise by hand: ordinary inputs, the edges that the document names, and wrong inputs. */
final class PromiseTest {
    private static final int[] NO_CHANGES = {-1, 0, 16, Integer.MIN_VALUE, Integer.MAX_VALUE};
    private static final int[] NO_DIRECTORIES = {-1, 4, Integer.MIN_VALUE, Integer.MAX_VALUE};
    private static final int[] NO_PEOPLE = {-1, 6, Integer.MIN_VALUE, Integer.MAX_VALUE};
    private static final int[][] NO_PLACES = {
        {-1, 0}, {16, 0}, {0, -1}, {0, 4}, {15, 4}, {Integer.MIN_VALUE, 0}, {Integer.MAX_VALUE, 0},
        {0, Integer.MIN_VALUE}, {0, Integer.MAX_VALUE}, {1 << 30, 0}, {4, 16}
    };

    private static final Check c = new Check("PromiseTest");

    public static void main(String[] args) {
        promise1();
        promise2();
        promise3();
        promise4();
        promise5();
        promise6();
        promise7();
        promise8();
        promise9();
        promise9Coverage();
        promise10();
        promise11();
        promise12();
        promise13();
        promise14();
        promise15Picking();
        promise15Halving();
        promise15Merging();
        promise16();
        promise17();
        promise18();
        promise19();
        promise20();
        promise21();
        promise22();
        promise23And24();
        promise25();
        promise26();
        promise27();
        promise28();
        promise29();
        promise30And31();
        promise30Exceptions();
        promise32();
        promise33();
        promise34();
        fullRoom();
        c.end();
    }

    private static int change(Branchyard x, int author, int... edits) {
        return Rooms.change(x, author, edits);
    }

    private static int queued(Branchyard x, int author, int... edits) {
        return Rooms.queued(x, author, edits);
    }

    private static int merged(Branchyard x, int author, int... edits) {
        int number = Rooms.merged(x, author, edits);
        c.due("stateOf a change to merge", 'm', () -> x.stateOf(number));
        return number;
    }

    private static void promise1() {
        Branchyard x = new Branchyard();
        c.noElement("1 no change", () -> x.stateOf(0));
        c.noElement("1 no test", () -> x.dropTest(0));
        c.badIndex("1 empty queue", () -> x.queueAt(0));
        c.badIndex("1 nothing merged", () -> x.mergedAt(0));
        c.due("1 builds", 0, x::builds);
        c.due("1 taken", 0L, x::taken);
        c.due("1 sound", true, x::isSound);
        for (int file = 0; file < 16; file++) {
            for (int span = 0; span < 4; span++) {
                int f = file;
                int s = span;
                c.due("1 value", 0, () -> x.value(f, s));
            }
        }
        x.open(5);
        for (int directory = 0; directory < 4; directory++) {
            int d = directory;
            c.due("1 not frozen", false, () -> x.setFrozen(d, false));
            c.due("1 owner 0", 0, () -> x.asked(0, d));
        }
        for (int person = 0; person < 6; person++) {
            int p = person;
            c.due("1 not away", false, () -> x.setAway(p, false));
        }
        x.setAway(0, true);
        for (int directory = 0; directory < 4; directory++) {
            int d = directory;
            c.due("1 stand-in 1", 1, () -> x.asked(0, d));
        }
    }

    private static void promise2() {
        Branchyard x = new Branchyard();
        c.due("2 first owner", 0, () -> x.setOwner(3, 5, 4));
        c.due("2 owner before", 5, () -> x.setOwner(3, 2, 3));
        c.due("2 other directory", 0, () -> x.setOwner(0, 3, 0));
        x.open(1);
        c.due("2 owner is asked", 2, () -> x.asked(0, 3));
        x.setAway(2, true);
        c.due("2 stand-in is asked", 3, () -> x.asked(0, 3));
        for (int d : NO_DIRECTORIES) {
            c.badIndex("2 directory " + d, () -> x.setOwner(d, 0, 1));
            c.badIndex("2 directory before person " + d, () -> x.setOwner(d, 9, 9));
        }
        for (int p : NO_PEOPLE) {
            c.badArgument("2 owner " + p, () -> x.setOwner(3, p, 1));
            c.badArgument("2 stand-in " + p, () -> x.setOwner(3, 1, p));
        }
        for (int p = 0; p < 6; p++) {
            int same = p;
            c.badArgument("2 same person", () -> x.setOwner(3, same, same));
        }
        c.due("2 unchanged by exceptions", 3, () -> x.asked(0, 3));
        c.due("2 unchanged owner", 2, () -> x.setOwner(3, 0, 5));
        c.due("2 last person as stand-in", 0, () -> x.setOwner(3, 5, 0));
    }

    private static void promise3() {
        Branchyard x = new Branchyard();
        c.due("3 was here", false, () -> x.setAway(5, true));
        c.due("3 was away", true, () -> x.setAway(5, true));
        c.due("3 was still away", true, () -> x.setAway(5, false));
        c.due("3 was back", false, () -> x.setAway(5, false));
        c.due("3 person 0", false, () -> x.setAway(0, true));
        for (int p : NO_PEOPLE) {
            c.badArgument("3 person " + p, () -> x.setAway(p, true));
        }
    }

    private static void promise4() {
        Branchyard x = new Branchyard();
        for (int p : NO_PEOPLE) {
            c.badArgument("4 person " + p, () -> x.open(p));
        }
        for (int i = 0; i < 16; i++) {
            int number = i;
            c.due("4 number", number, () -> x.open(number % 6));
            c.due("4 state", 'o', () -> x.stateOf(number));
            c.due("4 failed", false, () -> x.hasFailed(number));
            c.due("4 clashes", 0, () -> x.clashes(number));
            c.due("4 edits", 0, () -> x.close(number));
        }
        c.badState("4 a 17th change", () -> x.open(0));
        c.badArgument("4 person before state", () -> x.open(6));
        c.noElement("4 no change 16", () -> x.stateOf(16));
    }

    private static void promise5() {
        Branchyard x = new Branchyard();
        for (int n : NO_CHANGES) {
            c.noElement("5 change " + n, () -> x.edit(n, 0, 0, 0));
            c.noElement("5 change first " + n, () -> x.edit(n, 99, 99, 999));
        }
        x.open(2);
        c.due("5 one edit", 1, () -> x.edit(0, 0, 0, 0));
        c.due("5 in its place", 1, () -> x.edit(0, 0, 0, 99));
        c.due("5 value", 99, () -> x.valueWith(0, 0, 0));
        c.due("5 last place", 2, () -> x.edit(0, 15, 3, 7));
        c.due("5 other span", 3, () -> x.edit(0, 0, 3, 7));
        c.due("5 other file", 4, () -> x.edit(0, 1, 0, 7));
        for (int[] place : NO_PLACES) {
            c.badIndex("5 place", () -> x.edit(0, place[0], place[1], 1));
            c.badIndex("5 place before value", () -> x.edit(0, place[0], place[1], 100));
        }
        for (int v : new int[] {-1, 100, Integer.MIN_VALUE, Integer.MAX_VALUE}) {
            c.badArgument("5 value " + v, () -> x.edit(0, 2, 0, v));
        }
        c.due("5 exceptions change nothing", 4, () -> x.close(0));
        c.badState("5 closed", () -> x.edit(0, 0, 0, 1));
        c.badArgument("5 value before state", () -> x.edit(0, 0, 0, 100));
        c.badIndex("5 place before state", () -> x.edit(0, 16, 0, 1));
        queued(x, 2, 0, 0, 1);
        c.badState("5 queued", () -> x.edit(1, 0, 0, 2));
        x.step();
        c.badState("5 merged", () -> x.edit(1, 0, 0, 2));
        x.revert(1);
        c.badState("5 reverted", () -> x.edit(1, 0, 0, 2));
        c.due("5 trunk untouched", 0, () -> x.value(0, 0));
    }

    private static void promise6() {
        Branchyard x = new Branchyard();
        for (int n : NO_CHANGES) {
            c.noElement("6 change " + n, () -> x.take(n, 0, 0));
            c.noElement("6 change first " + n, () -> x.take(n, 16, 4));
        }
        x.open(2);
        c.badState("6 no edits", () -> x.take(0, 0, 0));
        x.edit(0, 0, 0, 5);
        x.edit(0, 15, 3, 6);
        for (int[] place : NO_PLACES) {
            c.badIndex("6 place", () -> x.take(0, place[0], place[1]));
        }
        c.badState("6 no such edit", () -> x.take(0, 0, 1));
        c.due("6 taken out", 1, () -> x.take(0, 0, 0));
        c.badState("6 gone", () -> x.take(0, 0, 0));
        c.due("6 value is the trunk's", 0, () -> x.valueWith(0, 0, 0));
        c.due("6 the other stays", 6, () -> x.valueWith(0, 15, 3));
        c.due("6 none left", 0, () -> x.take(0, 15, 3));
        x.edit(0, 1, 1, 1);
        x.close(0);
        c.badState("6 closed", () -> x.take(0, 1, 1));
        c.badIndex("6 place before state", () -> x.take(0, 1, 4));

        int other = change(x, 2, 0, 0, 1, 0, 1, 2);
        merged(x, 2, 0, 0, 3, 0, 1, 3);
        c.due("6 clashes", 2, () -> x.clashes(other));
        x.take(other, 0, 0);
        c.due("6 its clash is gone", 1, () -> x.clashes(other));
        x.edit(other, 0, 0, 1);
        c.due("6 and does not come back", 1, () -> x.clashes(other));
        x.update(other);
        c.due("6 the vote still covers it, but not the other", 's', () -> x.verdict(other, 0));
        x.take(other, 0, 1);
        c.due("6 the vote still covers it", 'y', () -> x.verdict(other, 0));
        merged(x, 2, 0, 0, 4, 15, 3, 1);
        int last = change(x, 2, 15, 3, 1, 15, 2, 1);
        merged(x, 2, 15, 3, 2, 15, 2, 2);
        x.take(last, 15, 3);
        c.due("6 a clash of the last span is gone", 1, () -> x.clashes(last));
    }

    private static void promise7() {
        Branchyard x = new Branchyard();
        for (int n : NO_CHANGES) {
            c.noElement("7 change " + n, () -> x.close(n));
        }
        x.open(2);
        x.edit(0, 0, 0, 1);
        x.edit(0, 5, 0, 1);
        c.due("7 edits", 2, () -> x.close(0));
        c.due("7 closed", 'x', () -> x.stateOf(0));
        c.badState("7 closed already", () -> x.close(0));
        queued(x, 2, 0, 0, 1);
        c.badState("7 queued", () -> x.close(1));
        x.step();
        c.badState("7 merged", () -> x.close(1));
        x.revert(1);
        c.badState("7 reverted", () -> x.close(1));
    }

    private static void promise8() {
        Branchyard x = new Branchyard();
        for (int n : NO_CHANGES) {
            c.noElement("8 change " + n, () -> x.vote(n, 0, true));
            c.noElement("8 change first " + n, () -> x.vote(n, 6, true));
        }
        x.open(2);
        c.due("8 no edits", 0, () -> x.vote(0, 0, true));
        x.edit(0, 0, 0, 1);
        x.edit(0, 4, 0, 1);
        x.edit(0, 8, 0, 1);
        c.due("8 for", 3, () -> x.vote(0, 0, true));
        c.due("8 against", 0, () -> x.vote(0, 0, false));
        c.due("8 person 5", 3, () -> x.vote(0, 5, true));
        for (int p : NO_PEOPLE) {
            c.badArgument("8 person " + p, () -> x.vote(0, p, true));
        }
        c.badArgument("8 author for", () -> x.vote(0, 2, true));
        c.badArgument("8 author against", () -> x.vote(0, 2, false));
        x.close(0);
        c.badState("8 closed", () -> x.vote(0, 0, true));
        c.badArgument("8 author before state", () -> x.vote(0, 2, true));
        c.badArgument("8 person before state", () -> x.vote(0, -1, true));
        queued(x, 2, 0, 0, 1);
        c.badState("8 queued", () -> x.vote(1, 0, true));
        x.step();
        c.badState("8 merged", () -> x.vote(1, 0, false));
        c.due("8 unchanged", 'y', () -> x.verdict(1, 0));
    }

    private static void promise9() {
        Branchyard x = new Branchyard();
        for (int n : NO_CHANGES) {
            c.noElement("9 change " + n, () -> x.verdict(n, 0));
            c.noElement("9 change first " + n, () -> x.verdict(n, 4));
        }
        x.open(2);
        for (int d : NO_DIRECTORIES) {
            c.badIndex("9 directory " + d, () -> x.verdict(0, d));
        }
        c.due("9 touches nothing", '-', () -> x.verdict(0, 0));
        x.edit(0, 3, 3, 1);
        x.edit(0, 12, 0, 1);
        c.due("9 end of directory 0", '?', () -> x.verdict(0, 0));
        c.due("9 not directory 1", '-', () -> x.verdict(0, 1));
        c.due("9 not directory 2", '-', () -> x.verdict(0, 2));
        c.due("9 start of directory 3", '?', () -> x.verdict(0, 3));
        x.vote(0, 1, true);
        c.due("9 another person's vote", '?', () -> x.verdict(0, 0));
        x.vote(0, 0, false);
        c.due("9 against", 'n', () -> x.verdict(0, 0));
        c.due("9 against elsewhere", '-', () -> x.verdict(0, 1));
        x.setAway(0, true);
        c.due("9 the stand-in's vote", 'y', () -> x.verdict(0, 0));
        x.setOwner(0, 3, 2);
        c.due("9 an owner who has not voted", '?', () -> x.verdict(0, 0));
        x.setAway(3, true);
        c.due("9 nobody is asked", 'f', () -> x.verdict(0, 0));
        c.due("9 nobody, untouched", 'y', () -> x.verdict(0, 3));
        x.setOwner(1, 3, 2);
        c.due("9 untouched goes first", '-', () -> x.verdict(0, 1));
    }

    private static void promise9Coverage() {
        Branchyard x = new Branchyard();
        x.open(2);
        x.edit(0, 0, 0, 1);
        x.edit(0, 4, 0, 1);
        x.vote(0, 0, true);
        x.edit(0, 0, 1, 0);
        c.due("9 a new edit of value 0 is not covered", 's', () -> x.verdict(0, 0));
        c.due("9 the other directory is covered", 'y', () -> x.verdict(0, 1));
        x.take(0, 0, 1);
        c.due("9 covered without it", 'y', () -> x.verdict(0, 0));
        x.edit(0, 0, 0, 2);
        c.due("9 another value", 's', () -> x.verdict(0, 0));
        x.edit(0, 0, 0, 1);
        c.due("9 the same value again", 'y', () -> x.verdict(0, 0));
        x.take(0, 0, 0);
        c.due("9 no edit left", '-', () -> x.verdict(0, 0));
        x.edit(0, 0, 0, 1);
        c.due("9 taken out and put back", 'y', () -> x.verdict(0, 0));
        x.edit(0, 0, 0, 2);
        x.vote(0, 0, true);
        c.due("9 voted again", 'y', () -> x.verdict(0, 0));
        x.edit(0, 0, 0, 1);
        c.due("9 only the last vote counts", 's', () -> x.verdict(0, 0));
        x.vote(0, 0, false);
        c.due("9 the last one is against", 'n', () -> x.verdict(0, 0));
        x.edit(0, 0, 0, 2);
        c.due("9 still against", 'n', () -> x.verdict(0, 0));
        x.take(0, 0, 0);
        x.take(0, 4, 0);
        x.vote(0, 0, true);
        x.edit(0, 0, 0, 0);
        c.due("9 a vote for no edits covers none", 's', () -> x.verdict(0, 0));
        int other = x.open(3);
        x.edit(other, 0, 0, 0);
        c.due("9 votes are of one change", '?', () -> x.verdict(other, 0));
    }

    private static void promise10() {
        Branchyard x = new Branchyard();
        for (int n : NO_CHANGES) {
            c.noElement("10 change " + n, () -> x.asked(n, 0));
            c.noElement("10 change first " + n, () -> x.asked(n, 4));
        }
        x.open(2);
        x.open(0);
        for (int d : NO_DIRECTORIES) {
            c.badIndex("10 directory " + d, () -> x.asked(0, d));
        }
        c.due("10 owner", 0, () -> x.asked(0, 0));
        c.due("10 stand-in for the author", 1, () -> x.asked(1, 0));
        x.setAway(1, true);
        c.due("10 a stand-in may be away", 1, () -> x.asked(1, 0));
        x.setAway(0, true);
        c.due("10 both away", 1, () -> x.asked(0, 0));
        c.due("10 author and away", 1, () -> x.asked(1, 0));
        x.setOwner(2, 5, 2);
        c.due("10 author is stand-in", 5, () -> x.asked(0, 2));
        x.setAway(5, true);
        c.noElement("10 nobody", () -> x.asked(0, 2));
        c.due("10 nobody only there", 2, () -> x.asked(1, 2));
        c.due("10 other directory", 1, () -> x.asked(0, 3));
        x.close(0);
        c.due("10 closed", 1, () -> x.asked(0, 3));
    }

    private static void promise11() {
        Branchyard x = new Branchyard();
        for (int n : NO_CHANGES) {
            c.noElement("11 change " + n, () -> x.missing(n));
        }
        x.open(2);
        c.due("11 no edits", 0, () -> x.missing(0));
        for (int d = 0; d < 4; d++) {
            int file = 4 * d;
            x.setOwner(d, d == 2 ? 5 : d, 4);
            x.edit(0, file, 0, 1);
        }
        c.due("11 all missing, the author owns none", 4, () -> x.missing(0));
        x.vote(0, 0, true);
        c.due("11 y", 3, () -> x.missing(0));
        x.vote(0, 1, false);
        c.due("11 n", 3, () -> x.missing(0));
        x.vote(0, 5, true);
        x.edit(0, 8, 0, 2);
        c.due("11 s", 3, () -> x.missing(0));
        x.setOwner(3, 3, 2);
        x.setAway(3, true);
        c.due("11 f", 2, () -> x.missing(0));
        x.vote(0, 1, true);
        x.vote(0, 5, true);
        c.due("11 none", 0, () -> x.missing(0));
    }

    private static void promise12() {
        Branchyard x = new Branchyard();
        for (int n : NO_CHANGES) {
            c.noElement("12 change " + n, () -> x.queue(n));
        }
        x.open(2);
        c.badState("12 no edits", () -> x.queue(0));
        x.edit(0, 0, 0, 1);
        x.edit(0, 4, 0, 1);
        c.unsupported("12 not voted", () -> x.queue(0));
        x.vote(0, 0, false);
        c.unsupported("12 against", () -> x.queue(0));
        x.vote(0, 0, true);
        x.edit(0, 4, 0, 2);
        c.unsupported("12 not covered", () -> x.queue(0));
        c.due("12 still open", 'o', () -> x.stateOf(0));
        x.edit(0, 4, 0, 1);
        c.due("12 queued", 1, () -> x.queue(0));
        c.due("12 state", 'q', () -> x.stateOf(0));
        c.badState("12 already", () -> x.queue(0));
        x.setOwner(1, 4, 5);
        c.due("12 verdicts may go missing", 1, () -> x.missing(0));
        c.due("12 and it stays queued", 'q', () -> x.stateOf(0));
        x.setOwner(1, 0, 1);
        int clashing = change(x, 2, 0, 0, 5);
        x.step();
        c.badState("12 clash", () -> x.queue(clashing));
        x.vote(clashing, 0, false);
        c.badState("12 clash before verdict", () -> x.queue(clashing));
        x.update(clashing);
        c.unsupported("12 up to date, but against", () -> x.queue(clashing));
        x.vote(clashing, 0, true);
        c.due("12 queued again", 1, () -> x.queue(clashing));
        c.badState("12 merged", () -> x.queue(0));
        int closed = change(x, 2, 9, 0, 5);
        x.close(closed);
        c.badState("12 closed", () -> x.queue(closed));
        x.setFrozen(3, true);
        int frozen = change(x, 2, 15, 0, 5);
        c.due("12 frozen may be queued", 2, () -> x.queue(frozen));
        x.setOwner(2, 5, 2);
        x.setAway(5, true);
        int free = x.open(2);
        x.edit(free, 8, 0, 1);
        c.due("12 nobody asked", 3, () -> x.queue(free));
    }

    private static void promise13() {
        Branchyard x = new Branchyard();
        for (int n : NO_CHANGES) {
            c.noElement("13 change " + n, () -> x.unqueue(n));
        }
        for (int i = 0; i < 3; i++) {
            queued(x, 2, i, 0, 1);
        }
        c.due("13 out of the middle", 2, () -> x.unqueue(1));
        c.due("13 open", 'o', () -> x.stateOf(1));
        c.badState("13 open already", () -> x.unqueue(1));
        c.due("13 first", 0, () -> x.queueAt(0));
        c.due("13 second", 2, () -> x.queueAt(1));
        c.due("13 back at the end", 3, () -> x.queue(1));
        c.due("13 last", 1, () -> x.queueAt(2));
        c.due("13 not failed", false, () -> x.hasFailed(1));
        x.step();
        c.badState("13 merged", () -> x.unqueue(0));
        x.revert(0);
        c.badState("13 reverted", () -> x.unqueue(0));
        int closed = x.open(1);
        x.close(closed);
        c.badState("13 closed", () -> x.unqueue(closed));
        int alone = queued(x, 2, 9, 0, 1);
        c.due("13 none left", 0, () -> x.unqueue(alone));
    }

    private static void promise14() {
        Branchyard x = new Branchyard();
        c.badIndex("14 empty", () -> x.queueAt(0));
        change(x, 2, 0, 0, 1);
        queued(x, 2, 0, 1, 1);
        queued(x, 2, 0, 2, 1);
        x.queue(0);
        c.due("14 first", 1, () -> x.queueAt(0));
        c.due("14 second", 2, () -> x.queueAt(1));
        c.due("14 third", 0, () -> x.queueAt(2));
        for (int i : new int[] {-1, 3, 16, Integer.MIN_VALUE, Integer.MAX_VALUE}) {
            c.badIndex("14 index " + i, () -> x.queueAt(i));
        }
    }

    private static void promise15Picking() {
        Branchyard x = new Branchyard();
        c.noElement("15 empty", x::step);
        for (int i = 0; i < 6; i++) {
            queued(x, 2, i, 0, 1);
        }
        c.due("15 four at most", 4, x::step);
        c.due("15 the next in turn", 4, () -> x.queueAt(0));
        c.due("15 the rest", 2, x::step);
        c.noElement("15 empty again", x::step);

        Branchyard y = new Branchyard();
        queued(y, 2, 12, 0, 1, 0, 0, 1);
        queued(y, 2, 0, 1, 1);
        queued(y, 2, 4, 0, 1);
        y.setFrozen(3, true);
        c.due("15 what is frozen waits, all of it", 2, y::step);
        c.due("15 it is still queued", 'q', () -> y.stateOf(0));
        c.noElement("15 nothing but frozen", y::step);
        y.setFrozen(3, false);
        c.due("15 freed", 1, y::step);
        c.due("15 merged last", 0, () -> y.mergedAt(2));

        Branchyard z = new Branchyard();
        queued(z, 2, 0, 0, 1);
        queued(z, 2, 0, 0, 2, 1, 0, 2);
        queued(z, 2, 1, 0, 3);
        c.due("15 only those taken stand in the way", 2, z::step);
        c.due("15 second is open", 'o', () -> z.stateOf(1));
        c.due("15 it clashes twice", 2, () -> z.clashes(1));
        c.due("15 third is merged", 'm', () -> z.stateOf(2));
        c.due("15 values", 1, () -> z.value(0, 0));
        c.due("15 values of the third", 3, () -> z.value(1, 0));

        Branchyard w = new Branchyard();
        queued(w, 2, 0, 0, 1);
        queued(w, 2, 1, 0, 2);
        queued(w, 2, 0, 0, 3);
        c.due("15 all taken before stand in the way", 2, w::step);
        c.due("15 so the third clashes", 1, () -> w.clashes(2));
    }

    private static void promise15Halving() {
        Branchyard x = new Branchyard();
        x.addTest(0, 0, 0, 1, 100);
        queued(x, 2, 0, 0, 60);
        queued(x, 2, 0, 1, 60);
        c.due("15 the first half goes first", 1, x::step);
        c.due("15 first merged", 'm', () -> x.stateOf(0));
        c.due("15 second failed", true, () -> x.hasFailed(1));
        c.due("15 second open", 'o', () -> x.stateOf(1));
        c.badIndex("15 second not queued", () -> x.queueAt(0));
        c.due("15 second has no clash", 0, () -> x.clashes(1));
        c.due("15 value", 60, () -> x.value(0, 0));
        c.due("15 value untouched", 0, () -> x.value(0, 1));

        // Of three, the first half is one: 0 alone, then 1 and 2 together, which hold only together.
        Branchyard y = new Branchyard();
        merged(y, 2, 5, 0, 50);
        y.addTest(5, 0, 5, 1, 60);
        y.addTest(0, 0, 0, 0, 10);
        int bad = queued(y, 2, 0, 0, 11);
        int room = queued(y, 2, 5, 0, 0);
        int user = queued(y, 2, 5, 1, 60);
        c.due("15 the larger half is the rest", 2, y::step);
        c.due("15 bad", true, () -> y.hasFailed(bad));
        c.due("15 room", 'm', () -> y.stateOf(room));
        c.due("15 user", 'm', () -> y.stateOf(user));

        // Of four, halves are of two: 1 holds only with 2, so it fails with 0, and 2 merges alone.
        Branchyard z = new Branchyard();
        merged(z, 2, 5, 0, 50);
        z.addTest(5, 0, 5, 1, 60);
        z.addTest(0, 0, 0, 0, 10);
        int good = queued(z, 2, 1, 0, 11);
        int alone = queued(z, 2, 5, 1, 60);
        int late = queued(z, 2, 5, 0, 0);
        int wrong = queued(z, 2, 0, 0, 11);
        c.due("15 two of four", 2, z::step);
        c.due("15 good", 'm', () -> z.stateOf(good));
        c.due("15 alone", true, () -> z.hasFailed(alone));
        c.due("15 late", 'm', () -> z.stateOf(late));
        c.due("15 wrong", true, () -> z.hasFailed(wrong));
        c.due("15 good before late", good, () -> z.mergedAt(1));
        c.due("15 late after good", late, () -> z.mergedAt(2));
        z.queue(alone);
        c.due("15 now it holds", 1, z::step);
        z.queue(wrong);
        c.due("15 none is merged", 0, z::step);
        c.due("15 sound", true, z::isSound);
    }

    private static void promise15Merging() {
        Branchyard x = new Branchyard();
        int open = change(x, 2, 0, 0, 9);
        int closed = change(x, 2, 0, 0, 9);
        x.close(closed);
        queued(x, 2, 1, 0, 1);
        queued(x, 2, 0, 0, 1);
        int waiting = queued(x, 2, 0, 0, 9, 2, 0, 9);
        int apart = queued(x, 2, 2, 0, 9);
        queued(x, 2, 4, 0, 1);
        c.due("15 four merged", 4, x::step);
        c.due("15 order 0", 2, () -> x.mergedAt(0));
        c.due("15 order 1", 3, () -> x.mergedAt(1));
        c.due("15 order 2", apart, () -> x.mergedAt(2));
        c.due("15 order 3", 6, () -> x.mergedAt(3));
        c.due("15 open one clashes", 1, () -> x.clashes(open));
        c.due("15 closed one does not", 0, () -> x.clashes(closed));
        c.due("15 queued one clashes", 2, () -> x.clashes(waiting));
        c.due("15 and is open", 'o', () -> x.stateOf(waiting));
        c.due("15 but has not failed", false, () -> x.hasFailed(waiting));
        c.badIndex("15 and left the queue", () -> x.queueAt(0));
        c.due("15 a merged one does not clash", 0, () -> x.clashes(apart));
        merged(x, 2, 1, 0, 2);
        c.due("15 no clash with the merged", 0, () -> x.clashes(2));
    }

    private static void promise16() {
        Branchyard x = new Branchyard();
        for (int d : NO_DIRECTORIES) {
            c.badIndex("16 directory " + d, () -> x.setFrozen(d, true));
        }
        for (int i = 0; i < 4; i++) {
            int d = i;
            c.due("16 was free", false, () -> x.setFrozen(d, true));
            c.due("16 was frozen", true, () -> x.setFrozen(d, true));
        }
        for (int i = 0; i < 4; i++) {
            int d = i;
            int number = queued(x, 2, 4 * d + 3, 3, 1);
            c.noElement("16 frozen", x::step);
            c.due("16 thaw", true, () -> x.setFrozen(d, false));
            c.due("16 thawed", 1, x::step);
            c.due("16 merged", 'm', () -> x.stateOf(number));
        }
        x.setFrozen(0, true);
        c.due("16 a revert is not kept back", 1, () -> x.revert(0));
    }

    private static void promise17() {
        Branchyard x = new Branchyard();
        for (int n : NO_CHANGES) {
            c.noElement("17 change " + n, () -> x.stateOf(n));
        }
        change(x, 2, 0, 0, 1);
        c.due("17 open", 'o', () -> x.stateOf(0));
        x.queue(0);
        c.due("17 queued", 'q', () -> x.stateOf(0));
        x.unqueue(0);
        c.due("17 open again", 'o', () -> x.stateOf(0));
        x.queue(0);
        x.step();
        c.due("17 merged", 'm', () -> x.stateOf(0));
        x.revert(0);
        c.due("17 reverted", 'v', () -> x.stateOf(0));
        x.open(2);
        x.close(1);
        c.due("17 closed", 'x', () -> x.stateOf(1));
    }

    private static void promise18() {
        Branchyard x = new Branchyard();
        for (int n : NO_CHANGES) {
            c.noElement("18 change " + n, () -> x.hasFailed(n));
        }
        x.addTest(0, 0, 0, 1, 10);
        queued(x, 2, 0, 0, 11);
        c.due("18 not yet", false, () -> x.hasFailed(0));
        x.step();
        c.due("18 failed", true, () -> x.hasFailed(0));
        x.queue(0);
        c.due("18 queued again, still failed", true, () -> x.hasFailed(0));
        x.unqueue(0);
        x.edit(0, 0, 0, 10);
        x.vote(0, 0, true);
        x.update(0);
        c.due("18 edited, still failed", true, () -> x.hasFailed(0));
        x.queue(0);
        x.step();
        c.due("18 merged", false, () -> x.hasFailed(0));
        x.revert(0);
        c.due("18 reverted", false, () -> x.hasFailed(0));
        queued(x, 2, 0, 0, 11);
        x.step();
        x.close(1);
        c.due("18 closed, still failed", true, () -> x.hasFailed(1));
    }

    private static void promise19() {
        Branchyard x = new Branchyard();
        for (int n : NO_CHANGES) {
            c.noElement("19 change " + n, () -> x.clashes(n));
        }
        int number = change(x, 2, 0, 0, 1, 0, 1, 1, 4, 0, 1);
        c.due("19 none", 0, () -> x.clashes(number));
        merged(x, 3, 0, 0, 1, 12, 0, 1);
        c.due("19 the same value clashes too", 1, () -> x.clashes(number));
        merged(x, 3, 0, 0, 2);
        c.due("19 the same span again", 1, () -> x.clashes(number));
        merged(x, 3, 4, 0, 2);
        c.due("19 another span", 2, () -> x.clashes(number));
        x.edit(number, 0, 0, 7);
        x.edit(number, 12, 0, 7);
        c.due("19 editing leaves them, a later edit has none", 2, () -> x.clashes(number));
        x.close(number);
        c.due("19 closing leaves them", 2, () -> x.clashes(number));
        merged(x, 3, 0, 1, 1);
        c.due("19 closed ones get none", 2, () -> x.clashes(number));
        int late = change(x, 2, 0, 1, 5);
        x.revert(1);
        c.due("19 reverts give none", 0, () -> x.clashes(late));
    }

    private static void promise20() {
        Branchyard x = new Branchyard();
        for (int n : NO_CHANGES) {
            c.noElement("20 change " + n, () -> x.update(n));
        }
        int number = x.open(2);
        c.due("20 nothing to do", 0, () -> x.update(number));
        x.edit(number, 0, 0, 1);
        x.edit(number, 4, 0, 1);
        x.edit(number, 4, 1, 1);
        x.edit(number, 8, 0, 1);
        x.vote(number, 0, true);
        x.vote(number, 1, true);
        x.update(number);
        c.due("20 without clashes votes stay", 'y', () -> x.verdict(number, 0));
        merged(x, 3, 0, 0, 1, 4, 1, 2);
        c.due("20 before it, the vote covers", 'y', () -> x.verdict(number, 0));
        x.vote(number, 5, true);
        c.due("20 clashes before", 2, () -> x.update(number));
        c.due("20 no clashes left", 0, () -> x.clashes(number));
        c.due("20 again", 0, () -> x.update(number));
        c.due("20 not covered", 's', () -> x.verdict(number, 0));
        c.due("20 not covered either", 's', () -> x.verdict(number, 1));
        c.due("20 no clash there", 'y', () -> x.verdict(number, 2));
        x.edit(number, 0, 0, 2);
        c.due("20 another value", 's', () -> x.verdict(number, 0));
        x.edit(number, 0, 0, 1);
        c.due("20 whatever its value", 's', () -> x.verdict(number, 0));
        x.take(number, 4, 1);
        c.due("20 without that edit", 'y', () -> x.verdict(number, 1));
        x.setAway(0, true);
        c.due("20 everybody's votes", 's', () -> x.verdict(number, 0));
        x.setOwner(0, 5, 1);
        c.due("20 a vote after the clash, too", 's', () -> x.verdict(number, 0));
        x.vote(number, 5, true);
        c.due("20 a vote after it covers", 'y', () -> x.verdict(number, 0));
        x.setAway(0, false);
        x.queue(number);
        c.badState("20 queued", () -> x.update(number));
        x.step();
        c.badState("20 merged", () -> x.update(number));
        x.revert(number);
        c.badState("20 reverted", () -> x.update(number));
        int closed = x.open(0);
        x.close(closed);
        c.badState("20 closed", () -> x.update(closed));
        promise20Values();
    }

    /** "Whatever its value": the one of now, the one that the vote covered, or another. */
    private static void promise20Values() {
        for (int now : new int[] {1, 2}) {
            Branchyard x = new Branchyard();
            int number = change(x, 3, 0, 0, 1, 0, 1, 1);
            x.edit(number, 0, 0, now);
            merged(x, 2, 0, 0, 1);
            c.due("20 one clash, value " + now, 1, () -> x.update(number));
            for (int value : new int[] {1, 2, 0}) {
                x.edit(number, 0, 0, value);
                c.due("20 not covered at " + value, 's', () -> x.verdict(number, 0));
            }
            x.take(number, 0, 0);
            c.due("20 the other span is covered", 'y', () -> x.verdict(number, 0));
            x.edit(number, 0, 0, 1);
            c.due("20 put back, still not covered", 's', () -> x.verdict(number, 0));
        }
    }

    private static void promise21() {
        Branchyard x = new Branchyard();
        for (int[] place : NO_PLACES) {
            c.badIndex("21 first", () -> x.addTest(place[0], place[1], 0, 0, 1));
            c.badIndex("21 second", () -> x.addTest(0, 0, place[0], place[1], 1));
            c.badIndex("21 place before limit", () -> x.addTest(0, 0, place[0], place[1], -1));
        }
        for (int limit : new int[] {-1, 199, Integer.MIN_VALUE, Integer.MAX_VALUE}) {
            c.badArgument("21 limit " + limit, () -> x.addTest(0, 0, 0, 0, limit));
        }
        merged(x, 2, 0, 0, 40, 5, 1, 30);
        c.unsupported("21 does not pass", () -> x.addTest(0, 0, 5, 1, 69));
        c.due("21 passes at its limit", 0, () -> x.addTest(0, 0, 5, 1, 70));
        c.unsupported("21 the same span twice", () -> x.addTest(0, 0, 0, 0, 79));
        c.due("21 the same span twice passes", 1, () -> x.addTest(0, 0, 0, 0, 80));
        c.due("21 lowest limit", 2, () -> x.addTest(15, 3, 15, 2, 0));
        c.due("21 highest limit", 3, () -> x.addTest(15, 3, 15, 2, 198));
        x.dropTest(3);
        for (int i = 4; i < 12; i++) {
            int number = i;
            c.due("21 number", number, () -> x.addTest(1, 1, 2, 2, 99));
        }
        c.badState("21 a 13th", () -> x.addTest(1, 1, 2, 2, 99));
        c.badState("21 state before passing", () -> x.addTest(0, 0, 0, 0, 0));
        c.badArgument("21 limit before state", () -> x.addTest(0, 0, 0, 0, 199));
        c.badIndex("21 place before state", () -> x.addTest(0, 0, 16, 0, 0));
        c.due("21 no builds for it", 0, x::builds);
        queued(x, 2, 0, 0, 41);
        c.due("21 it counts: 41 and 41 are too much", 0, x::step);
        queued(x, 2, 5, 1, 31);
        c.due("21 40 and 31 are too much", 0, x::step);
        queued(x, 2, 5, 1, 29);
        c.due("21 40 and 29 are not", 1, x::step);
    }

    private static void promise22() {
        Branchyard x = new Branchyard();
        for (int n : NO_CHANGES) {
            c.noElement("22 test " + n, () -> x.dropTest(n));
        }
        for (int i = 0; i < 12; i++) {
            x.addTest(i, 0, 0, 0, 10);
        }
        c.noElement("22 test 12", () -> x.dropTest(12));
        queued(x, 2, 3, 0, 11);
        c.due("22 it counts", 0, x::step);
        c.due("22 left", 11, () -> x.dropTest(3));
        c.noElement("22 dropped", () -> x.dropTest(3));
        x.queue(0);
        c.due("22 it counts no more", 1, x::step);
        for (int i = 11; i > 3; i--) {
            int number = i;
            c.due("22 left", i - 1, () -> x.dropTest(number));
        }
        c.due("22 three", 2, () -> x.dropTest(0));
        c.due("22 two", 1, () -> x.dropTest(2));
        c.due("22 one", 0, () -> x.dropTest(1));
        c.noElement("22 none", () -> x.dropTest(0));
        c.badState("22 twelve were added", () -> x.addTest(0, 0, 0, 0, 1));
    }

    private static void promise23And24() {
        Branchyard x = new Branchyard();
        for (int[] place : NO_PLACES) {
            c.badIndex("23 place", () -> x.value(place[0], place[1]));
            c.badIndex("24 place", () -> x.valueByMerges(place[0], place[1]));
        }
        queued(x, 2, 3, 2, 50, 15, 3, 99);
        c.due("23 queued ones do not count", 0, () -> x.value(3, 2));
        c.due("24 queued ones do not count", 0, () -> x.valueByMerges(3, 2));
        x.step();
        merged(x, 2, 3, 2, 20);
        merged(x, 2, 15, 3, 0, 2, 3, 4);
        int[][] due = {{3, 2, 20}, {15, 3, 0}, {2, 3, 4}, {3, 3, 0}, {0, 0, 0}};
        for (int[] d : due) {
            c.due("23 value", d[2], () -> x.value(d[0], d[1]));
            c.due("24 value", d[2], () -> x.valueByMerges(d[0], d[1]));
        }
        x.revert(1);
        c.due("23 after a revert", 50, () -> x.value(3, 2));
        c.due("24 after a revert", 50, () -> x.valueByMerges(3, 2));
        x.revert(0);
        c.due("23 along with it", 0, () -> x.value(2, 3));
        c.due("24 along with it", 0, () -> x.valueByMerges(2, 3));
    }

    private static void promise25() {
        Branchyard x = new Branchyard();
        for (int n : NO_CHANGES) {
            c.noElement("25 change " + n, () -> x.valueWith(n, 0, 0));
            c.noElement("25 change first " + n, () -> x.valueWith(n, 16, 0));
        }
        merged(x, 2, 0, 0, 5, 0, 1, 6);
        for (int[] place : NO_PLACES) {
            c.badIndex("25 place", () -> x.valueWith(0, place[0], place[1]));
        }
        int open = change(x, 2, 0, 0, 0);
        c.due("25 its edit, of value 0", 0, () -> x.valueWith(open, 0, 0));
        c.due("25 the trunk's", 6, () -> x.valueWith(open, 0, 1));
        merged(x, 2, 0, 0, 7);
        c.due("25 a merged one would be merged again", 5, () -> x.valueWith(0, 0, 0));
        x.close(open);
        c.due("25 closed", 0, () -> x.valueWith(open, 0, 0));
        x.revert(0);
        c.due("25 reverted", 5, () -> x.valueWith(0, 0, 0));
        c.due("25 reverted, too", 7, () -> x.valueWith(2, 0, 0));
        c.due("25 the trunk's again", 0, () -> x.valueWith(2, 0, 1));
    }

    private static void promise26() {
        Branchyard x = new Branchyard();
        for (int n : NO_CHANGES) {
            c.noElement("26 change " + n, () -> x.along(n));
        }
        change(x, 2, 0, 0, 1);
        c.badState("26 open", () -> x.along(0));
        x.queue(0);
        c.badState("26 queued", () -> x.along(0));
        x.step();
        c.due("26 alone", 1, () -> x.along(0));
        merged(x, 2, 0, 1, 1, 0, 0, 2);
        merged(x, 2, 0, 1, 3, 0, 2, 3);
        merged(x, 2, 5, 0, 3);
        merged(x, 2, 0, 2, 4, 5, 0, 4);
        c.due("26 over and over", 4, () -> x.along(0));
        c.due("26 from the second", 3, () -> x.along(1));
        c.due("26 only those behind", 2, () -> x.along(3));
        c.due("26 the last", 1, () -> x.along(4));
        c.due("26 it changes nothing", 'm', () -> x.stateOf(0));
        c.due("26 no builds", 0, x::builds);
        x.revert(2);
        c.badState("26 reverted", () -> x.along(2));
        c.badState("26 reverted along", () -> x.along(4));
        c.due("26 reverted ones do not count", 2, () -> x.along(0));
        merged(x, 2, 0, 2, 9);
        c.due("26 nor do they tie a later one", 2, () -> x.along(0));
        int closed = x.open(2);
        x.close(closed);
        c.badState("26 closed", () -> x.along(closed));

        Branchyard y = new Branchyard();
        merged(y, 2, 0, 0, 1, 0, 1, 1);
        merged(y, 2, 0, 0, 2);
        merged(y, 2, 0, 1, 3);
        c.due("26 each goes along with the first", 3, () -> y.along(0));
        c.due("26 but not with one another", 1, () -> y.along(1));
    }

    private static void promise27() {
        Branchyard x = new Branchyard();
        for (int n : NO_CHANGES) {
            c.noElement("27 change " + n, () -> x.revert(n));
        }
        merged(x, 2, 0, 0, 10, 1, 0, 10);
        merged(x, 2, 0, 0, 20);
        merged(x, 2, 0, 0, 30, 2, 0, 30);
        merged(x, 2, 3, 0, 40);
        c.due("27 two", 2, () -> x.revert(1));
        c.due("27 value before them", 10, () -> x.value(0, 0));
        c.due("27 value of the one along", 0, () -> x.value(2, 0));
        c.due("27 other values stay", 40, () -> x.value(3, 0));
        c.due("27 itself", 'v', () -> x.stateOf(1));
        c.due("27 along", 'v', () -> x.stateOf(2));
        c.due("27 before it", 'm', () -> x.stateOf(0));
        c.badState("27 reverted already", () -> x.revert(1));
        c.due("27 sound", true, x::isSound);
        change(x, 2, 0, 0, 1);
        c.badState("27 open", () -> x.revert(4));
        x.queue(4);
        c.badState("27 queued", () -> x.revert(4));
        x.unqueue(4);
        x.close(4);
        c.badState("27 closed", () -> x.revert(4));

        Branchyard y = new Branchyard();
        merged(y, 2, 0, 0, 90);
        merged(y, 2, 0, 0, 10);
        merged(y, 2, 0, 1, 5);
        y.addTest(0, 0, 0, 1, 50);
        c.unsupported("27 not good without it", () -> y.revert(1));
        c.due("27 nothing changed", 'm', () -> y.stateOf(1));
        c.due("27 value stays", 10, () -> y.value(0, 0));
        c.due("27 order stays", 1, () -> y.mergedAt(1));
        c.due("27 good without both", 2, () -> y.revert(0));
        c.due("27 value", 0, () -> y.value(0, 0));
        c.due("27 third stays", 2, () -> y.mergedAt(0));
    }

    private static void promise28() {
        Branchyard x = new Branchyard();
        c.badIndex("28 none", () -> x.mergedAt(0));
        int late = change(x, 2, 9, 0, 1);
        merged(x, 2, 0, 0, 1);
        merged(x, 2, 1, 0, 1);
        x.queue(late);
        x.step();
        c.due("28 first", 1, () -> x.mergedAt(0));
        c.due("28 second", 2, () -> x.mergedAt(1));
        c.due("28 third", 0, () -> x.mergedAt(2));
        for (int i : new int[] {-1, 3, 16, Integer.MIN_VALUE, Integer.MAX_VALUE}) {
            c.badIndex("28 index " + i, () -> x.mergedAt(i));
        }
        x.revert(2);
        c.due("28 first stays", 1, () -> x.mergedAt(0));
        c.due("28 third moves up", 0, () -> x.mergedAt(1));
        c.badIndex("28 two are left", () -> x.mergedAt(2));
    }

    private static void promise29() {
        Branchyard x = new Branchyard();
        for (int d : NO_DIRECTORIES) {
            c.badIndex("29 directory " + d, () -> x.isGood(d));
        }
        x.addTest(0, 0, 4, 0, 50);
        x.addTest(4, 0, 4, 0, 198);
        merged(x, 2, 4, 0, 50);
        int before = x.builds();
        long taken = x.taken();
        for (int i = 0; i < 4; i++) {
            int d = i;
            c.due("29 good", true, () -> x.isGood(d));
        }
        c.due("29 nothing is built", before, x::builds);
        c.due("29 nothing is taken", taken, x::taken);
    }

    private static void promise30And31() {
        Branchyard x = new Branchyard();
        merged(x, 2, 0, 0, 1);
        c.due("30 without tests nothing is built", 0, x::builds);
        x.addTest(0, 0, 0, 1, 100);
        x.addTest(8, 0, 0, 3, 100);
        c.due("30 adding builds nothing", 0, x::builds);
        merged(x, 2, 15, 0, 1);
        c.due("30 all directories with tests", 2, x::builds);
        c.due("31 nothing kept before", 0L, x::taken);
        merged(x, 2, 15, 0, 2);
        c.due("30 the same inputs", 2, x::builds);
        c.due("31 both taken", 2L, x::taken);
        merged(x, 2, 0, 3, 7);
        c.due("30 an input of directory 2", 3, x::builds);
        c.due("31 directory 0 taken", 3L, x::taken);
        merged(x, 2, 0, 3, 0);
        c.due("30 inputs of long ago", 3, x::builds);
        c.due("31 still kept", 5L, x::taken);
        x.addTest(12, 0, 12, 1, 100);
        merged(x, 2, 15, 0, 3);
        c.due("30 a test of any directory was added", 6, x::builds);
        c.due("31 nothing taken", 5L, x::taken);
        x.dropTest(2);
        merged(x, 2, 15, 0, 4);
        c.due("30 one was dropped", 8, x::builds);
        c.due("31 nothing taken either", 5L, x::taken);
        c.due("27 a revert builds", 1, () -> x.revert(6));
        c.due("31 it takes two", 7L, x::taken);
        queued(x, 2, 0, 0, 60, 0, 1, 60, 0, 3, 9);
        c.due("30 not good", 0, x::step);
        c.due("30 then directory 2 is not built", 9, x::builds);
        x.queue(7);
        x.step();
        c.due("30 what is not good is kept, too", 9, x::builds);
        c.due("31 it is taken", 8L, x::taken);

        // Inputs are in order: 1 and 2 are not 2 and 1.
        Branchyard y = new Branchyard();
        y.addTest(0, 0, 0, 1, 100);
        merged(y, 2, 0, 0, 1, 0, 1, 2);
        merged(y, 2, 0, 0, 2, 0, 1, 1);
        c.due("30 order of inputs", 2, y::builds);
        // All tests of a directory give inputs, and those of no other.
        Branchyard v = new Branchyard();
        v.addTest(0, 0, 0, 0, 100);
        v.addTest(3, 0, 12, 0, 100);
        v.addTest(1, 0, 1, 0, 100);
        merged(v, 2, 15, 0, 1);
        merged(v, 2, 0, 0, 1);
        merged(v, 2, 12, 0, 1);
        merged(v, 2, 1, 0, 1);
        c.due("30 an input of each test", 4, v::builds);
        c.due("31 none the same", 0L, v::taken);
        // A directory's cells are its own.
        Branchyard z = new Branchyard();
        z.addTest(0, 0, 0, 0, 100);
        z.addTest(4, 0, 4, 0, 100);
        merged(z, 2, 15, 0, 1);
        c.due("30 each directory", 2, z::builds);
    }

    private static void promise30Exceptions() {
        Branchyard x = new Branchyard();
        merged(x, 2, 0, 0, 90);
        merged(x, 2, 0, 0, 10);
        x.addTest(0, 0, 0, 0, 50);
        c.unsupported("30 revert", () -> x.revert(1));
        c.due("30 builds stay counted", 1, x::builds);
        c.unsupported("31 revert again", () -> x.revert(1));
        c.due("31 and the cell is kept", 1L, x::taken);
        c.unsupported("30 a test that does not pass", () -> x.addTest(0, 0, 0, 0, 5));
        c.badArgument("30 a bad limit", () -> x.addTest(0, 0, 0, 0, 500));
        c.noElement("30 no such test", () -> x.dropTest(7));
        c.unsupported("31 revert once more", () -> x.revert(1));
        c.due("31 no test was added", 2L, x::taken);
        c.due("30 so nothing is built", 1, x::builds);
    }

    private static void promise32() {
        Branchyard x = new Branchyard();
        c.badArithmetic("32 none", x::takenShare);
        x.addTest(0, 0, 0, 0, 100);
        merged(x, 2, 15, 0, 1);
        c.due("32 none taken", 0.0f, x::takenShare);
        merged(x, 2, 15, 0, 2);
        c.due("32 half", 0.5f, x::takenShare);
        merged(x, 2, 15, 0, 3);
        c.due("32 two thirds", 2.0f / 3.0f, x::takenShare);
        x.dropTest(0);
        merged(x, 2, 15, 0, 4);
        c.due("32 no new results", 2.0f / 3.0f, x::takenShare);
    }

    private static void promise33() {
        Branchyard x = new Branchyard();
        c.badArithmetic("33 none", x::meanEdits);
        change(x, 2, 0, 0, 1, 0, 1, 1, 0, 2, 1);
        c.badArithmetic("33 none merged", x::meanEdits);
        x.queue(0);
        x.step();
        c.due("33 three", 3.0, x::meanEdits);
        merged(x, 2, 1, 0, 1);
        c.due("33 two", 2.0, x::meanEdits);
        merged(x, 2, 2, 0, 1);
        c.due("33 five thirds", 5.0 / 3.0, x::meanEdits);
        x.revert(0);
        c.due("33 one", 1.0, x::meanEdits);
        x.revert(1);
        x.revert(2);
        c.badArithmetic("33 all reverted", x::meanEdits);
    }

    private static void promise34() {
        Branchyard x = new Branchyard();
        c.due("34 new", true, x::isSound);
        x.addTest(0, 0, 0, 1, 100);
        merged(x, 2, 0, 0, 50);
        merged(x, 2, 0, 0, 60);
        queued(x, 2, 0, 1, 41);
        x.step();
        int builds = x.builds();
        long taken = x.taken();
        c.due("34 after a failure", true, x::isSound);
        x.revert(1);
        c.due("34 after a revert", true, x::isSound);
        c.due("34 nothing built since but for the revert", builds + taken + 1, () -> x.builds() + x.taken());
    }

    /** As many changes that edit all spans as 512 calls have room for, and all the tests there can be. */
    private static void fullRoom() {
        Branchyard x = new Branchyard();
        for (int i = 0; i < 12; i++) {
            x.addTest(i, 0, 15 - i, 3, 198);
        }
        for (int i = 0; i < 6; i++) {
            x.open(i);
            for (int place = 0; place < 64; place++) {
                x.edit(i, place / 4, place % 4, 99);
            }
            for (int person = 0; person < 6; person++) {
                if (person != i) {
                    x.vote(i, person, true);
                }
            }
            x.queue(i);
        }
        c.due("6 queued", 5, () -> x.queueAt(5));
        c.due("one merged, and all others clash", 1, x::step);
        c.due("clashes in all spans", 64, () -> x.clashes(5));
        c.due("highest values", 99, () -> x.value(15, 3));
        c.noElement("no more queued", x::step);
        c.due("reverted", 1, () -> x.revert(0));
        c.due("sound", true, x::isSound);
    }
}
