/** Rooms in the states that tests begin with; the people 0 and 1 are asked in all of them. */
final class Rooms {
    private Rooms() {
    }

    /** A change with edits, given as file, span, value, for which the people 0 and 1 vote as they may. */
    static int change(Branchyard x, int author, int... edits) {
        int number = x.open(author);
        for (int i = 0; i + 2 < edits.length; i += 3) {
            x.edit(number, edits[i], edits[i + 1], edits[i + 2]);
        }
        for (int person = 0; person < 2; person++) {
            if (person != author) {
                x.vote(number, person, true);
            }
        }
        return number;
    }

    static int queued(Branchyard x, int author, int... edits) {
        int number = change(x, author, edits);
        x.queue(number);
        return number;
    }

    /** The queue must be empty before. */
    static int merged(Branchyard x, int author, int... edits) {
        int number = queued(x, author, edits);
        x.step();
        return number;
    }

    /** As many open changes; number n edits span 0 of file n. */
    static Branchyard open(int size) {
        Branchyard x = new Branchyard();
        for (int n = 0; n < size; n++) {
            change(x, 2, n, 0, 10 + n);
        }
        return x;
    }

    static Branchyard queued(int size) {
        Branchyard x = open(size);
        for (int n = 0; n < size; n++) {
            x.queue(n);
        }
        return x;
    }

    static Branchyard merged(int size) {
        Branchyard x = queued(size);
        for (int n = 0; n < size; n += 4) {
            x.step();
        }
        return x;
    }

    /** The change 0 is open, 1 queued, 2 merged, 3 closed and 4 reverted; each edits span 3 of its file. */
    static Branchyard withEachState() {
        Branchyard x = new Branchyard();
        for (int n = 0; n < 5; n++) {
            change(x, 2, n, 3, 20 + n);
        }
        x.queue(2);
        x.queue(4);
        x.step();
        x.revert(4);
        x.close(3);
        x.queue(1);
        return x;
    }

    /** A room without changes, and as many tests: number n reads span 1 of file n and span 2 of file 0. */
    static Branchyard tested(int size) {
        Branchyard x = new Branchyard();
        for (int n = 0; n < size; n++) {
            x.addTest(n, 1, 0, 2, 50);
        }
        return x;
    }
}
