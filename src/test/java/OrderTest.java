import java.util.ArrayList;
import java.util.List;

/**
 * "If several exceptions apply, the one that is listed first is thrown": each call meets every
 * combination of the wrongs that it can be refused for, and the first listed of them is due.
 */
final class OrderTest {
    private static final String ELEMENT = "throws.NoSuchElementException";
    private static final String INDEX = "throws.IndexOutOfBoundsException";
    private static final String ARGUMENT = "throws.IllegalArgumentException";
    private static final String STATE = "throws.IllegalStateException";
    private static final String UNSUPPORTED = "throws.UnsupportedOperationException";

    // The first of each is right.
    private static final int[][] PLACES = {{15, 3}, {-1, 0}, {16, 0}, {0, -1}, {0, 4}, {16, 4}, {-1, -1}};
    private static final int[] NO_CHANGES = {-1, 12, 16, Integer.MIN_VALUE, Integer.MAX_VALUE};
    private static final int[] DIRECTORIES = {3, -1, 4, Integer.MIN_VALUE, Integer.MAX_VALUE};
    private static final int[] PEOPLE = {5, -1, 6, Integer.MIN_VALUE, Integer.MAX_VALUE};
    private static final int[] VALUES = {99, -1, 100, Integer.MIN_VALUE, Integer.MAX_VALUE};
    private static final int[] LIMITS = {198, 0, -1, 199, Integer.MIN_VALUE, Integer.MAX_VALUE};

    private static final Check c = new Check("OrderTest");

    public static void main(String[] args) {
        setOwner();
        open();
        edit();
        take();
        vote();
        verdictAndAsked();
        queue();
        addTest();
        valueWith();
        revert();
        c.end();
    }

    /** The first refusal that is not null, or else the answer. */
    private static Object first(Object answer, String... refusals) {
        for (String refusal : refusals) {
            if (refusal != null) {
                return refusal;
            }
        }
        return answer;
    }

    private static String unless(boolean right, String refusal) {
        return right ? null : refusal;
    }

    private static boolean isPlace(int[] place) {
        return place == PLACES[0];
    }

    /** The changes of a room with each state, and the numbers of none. */
    private static List<Integer> changes() {
        List<Integer> numbers = new ArrayList<>();
        for (int n = 0; n < 5; n++) {
            numbers.add(n);
        }
        for (int n : NO_CHANGES) {
            numbers.add(n);
        }
        return numbers;
    }

    private static boolean isChange(int n) {
        return n >= 0 && n < 5;
    }

    private static void setOwner() {
        for (int d : DIRECTORIES) {
            for (int o : PEOPLE) {
                for (int s : new int[] {4, 5, -1, 6, Integer.MIN_VALUE, Integer.MAX_VALUE}) {
                    boolean right = o == 5 && s == 4;
                    Branchyard x = new Branchyard();
                    c.due("2 setOwner " + d + " " + o + " " + s,
                            first(0, unless(d == 3, INDEX), unless(right, ARGUMENT)), () -> x.setOwner(d, o, s));
                }
            }
        }
    }

    private static void open() {
        for (int size : new int[] {0, 15, 16}) {
            for (int p : PEOPLE) {
                Branchyard x = Rooms.open(size);
                c.due("4 open " + p + " with " + size,
                        first(size, unless(p == 5, ARGUMENT), unless(size < 16, STATE)), () -> x.open(p));
            }
        }
    }

    private static void edit() {
        for (int n : changes()) {
            for (int[] place : PLACES) {
                for (int v : VALUES) {
                    Branchyard x = Rooms.withEachState();
                    Object due = first(2, unless(isChange(n), ELEMENT), unless(isPlace(place), INDEX),
                            unless(v == 99, ARGUMENT), unless(n == 0, STATE));
                    c.due("5 edit " + n + " " + place[0] + " " + place[1] + " " + v, due,
                            () -> x.edit(n, place[0], place[1], v));
                }
            }
        }
    }

    private static void take() {
        for (int n : changes()) {
            for (int[] place : PLACES) {
                for (boolean has : new boolean[] {true, false}) {
                    Branchyard x = Rooms.withEachState();
                    if (has) {
                        x.edit(0, 15, 3, 1);
                    }
                    Object due = first(1, unless(isChange(n), ELEMENT), unless(isPlace(place), INDEX),
                            unless(n == 0 && has, STATE));
                    c.due("6 take " + n + " " + place[0] + " " + place[1] + ", has " + has, due,
                            () -> x.take(n, place[0], place[1]));
                }
            }
        }
    }

    private static void vote() {
        for (int n : changes()) {
            for (int p : new int[] {5, 2, -1, 6, Integer.MIN_VALUE, Integer.MAX_VALUE}) {
                for (boolean isFor : new boolean[] {true, false}) {
                    Branchyard x = Rooms.withEachState();
                    // The author is person 2, so the number of the person is right but for the author.
                    Object due = first(isFor ? 1 : 0, unless(isChange(n), ELEMENT), unless(p == 5, ARGUMENT),
                            unless(n == 0, STATE));
                    c.due("8 vote " + n + " " + p + " " + isFor, due, () -> x.vote(n, p, isFor));
                }
            }
        }
    }

    private static void verdictAndAsked() {
        for (int n : changes()) {
            for (int d : DIRECTORIES) {
                Branchyard x = Rooms.withEachState();
                String call = n + " " + d;
                Object right = first(0, unless(isChange(n), ELEMENT), unless(d == 3, INDEX));
                c.due("9 verdict " + call, right.equals(0) ? '-' : right, () -> x.verdict(n, d));
                c.due("10 asked " + call, right, () -> x.asked(n, d));
                x.setOwner(3, 0, 2);
                x.setAway(0, true);
                Object nobody = first(0, unless(isChange(n), ELEMENT), unless(d == 3, INDEX), ELEMENT);
                c.due("10 asked, nobody " + call, nobody, () -> x.asked(n, d));
            }
        }
    }

    private static void queue() {
        for (int n : NO_CHANGES) {
            Branchyard x = Rooms.withEachState();
            x.vote(0, 0, false);
            c.noElement("12 queue " + n, () -> x.queue(n));
        }
        // The verdict of all five is missing: only the open one gets as far as that.
        Branchyard x = Rooms.withEachState();
        for (int d = 0; d < 4; d++) {
            x.setOwner(d, 5, 4);
        }
        for (int n = 0; n < 5; n++) {
            int number = n;
            c.due("12 missing " + n, 1, () -> x.missing(number));
            c.due("12 queue " + n, n == 0 ? UNSUPPORTED : STATE, () -> x.queue(number));
        }
        x.take(0, 0, 3);
        c.badState("12 no edits", () -> x.queue(0));

        // A clash and a missing verdict, then the one without the other.
        Branchyard y = new Branchyard();
        int number = Rooms.change(y, 3, 0, 0, 1, 4, 0, 1);
        Rooms.merged(y, 2, 0, 0, 2);
        y.vote(number, 0, false);
        c.badState("12 clash and missing", () -> y.queue(number));
        y.vote(number, 0, true);
        c.badState("12 clash alone", () -> y.queue(number));
        y.update(number);
        c.unsupported("12 missing alone", () -> y.queue(number));
        y.vote(number, 0, true);
        c.due("12 neither", 1, () -> y.queue(number));
    }

    private static void addTest() {
        for (int added : new int[] {0, 11, 12}) {
            for (int[] one : PLACES) {
                for (int[] other : PLACES) {
                    for (int limit : LIMITS) {
                        addTest(added, one, other, limit);
                    }
                }
            }
        }
    }

    /** The right place has the value 1 in the trunk, so that a limit of 0 is too low for it. */
    private static void addTest(int added, int[] one, int[] other, int limit) {
        Branchyard x = Rooms.tested(added);
        Rooms.merged(x, 2, 15, 3, 1);
        Object due = first(added, unless(isPlace(one) && isPlace(other), INDEX),
                unless(limit == 198 || limit == 0, ARGUMENT), unless(added < 12, STATE),
                unless(limit == 198, UNSUPPORTED));
        c.due("21 addTest " + one[0] + " " + one[1] + " " + other[0] + " " + other[1] + " " + limit + " after " + added,
                due, () -> x.addTest(one[0], one[1], other[0], other[1], limit));
    }

    private static void valueWith() {
        for (int n : changes()) {
            for (int[] place : PLACES) {
                Branchyard x = Rooms.withEachState();
                Object due = first(0, unless(isChange(n), ELEMENT), unless(isPlace(place), INDEX));
                c.due("25 valueWith " + n + " " + place[0] + " " + place[1], due,
                        () -> x.valueWith(n, place[0], place[1]));
            }
        }
    }

    /** The trunk would be bad without change 1; for any other, the state or the number is wrong first. */
    private static void revert() {
        Branchyard x = new Branchyard();
        Rooms.merged(x, 2, 0, 0, 90);
        Rooms.merged(x, 2, 0, 0, 10);
        x.addTest(0, 0, 0, 0, 50);
        Rooms.change(x, 2, 0, 0, 95);
        for (int n : NO_CHANGES) {
            c.noElement("27 revert " + n, () -> x.revert(n));
            c.noElement("26 along " + n, () -> x.along(n));
        }
        c.badState("27 revert an open one", () -> x.revert(2));
        c.badState("26 along an open one", () -> x.along(2));
        c.due("27 nothing was built for these", 0, x::builds);
        c.unsupported("27 revert what must stay", () -> x.revert(1));
        c.due("27 it was built for this", 1, x::builds);
    }
}
