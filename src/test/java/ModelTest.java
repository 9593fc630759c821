import java.util.ArrayList;
import java.util.List;
import java.util.Random;

/** Long runs of calls drawn from fixed seeds, answered by the program and by PlainRoom alike. */
final class ModelTest {
    private static final int RUNS = 3000;
    // After these, and what one more group of them may take, a run asks until it has had the 512
    // calls for which answers are promised, and no more.
    private static final int CALLS = 430;
    private static final int ALL_CALLS = 512;

    private final Check check;
    private final Random random;
    private final Branchyard x = new Branchyard();
    private final PlainRoom plain = new PlainRoom();
    private final List<String> told = new ArrayList<>();
    private final int files;
    private final int spans;
    private final int values;
    private final int steps;
    private final int reverts;
    private final boolean isWild;
    private int opened;
    private boolean differs;

    private ModelTest(Check check, int seed) {
        this.check = check;
        this.random = new Random(seed);
        this.files = 1 + random.nextInt(16);
        this.spans = 1 + random.nextInt(4);
        this.values = 2 + random.nextInt(98);
        this.steps = 1 + random.nextInt(10);
        this.reverts = 1 + random.nextInt(4);
        this.isWild = random.nextInt(4) == 0;
    }

    public static void main(String[] args) {
        Check check = new Check("ModelTest");
        for (int seed = 0; seed < RUNS; seed++) {
            new ModelTest(check, seed).run();
        }
        check.end();
    }

    private void run() {
        while (told.size() < CALLS && !differs) {
            oneCall();
        }
        while (told.size() < ALL_CALLS && !differs) {
            ask(told.size() % 20, below(16));
        }
    }

    /** Mostly a number below the size; now and then one beside it, or one far off. */
    private int below(int size) {
        int kind = random.nextInt(isWild ? 12 : 200);
        if (kind == 0) {
            int[] far = {-1, size, size + 1, Integer.MIN_VALUE, Integer.MAX_VALUE, 1 << 30, -size};
            return far[random.nextInt(far.length)];
        }
        return random.nextInt(size);
    }

    private int file() {
        int file = below(16);
        return file >= 0 && file < 16 ? (file % files) * 5 % 16 : file;
    }

    private int span() {
        int span = below(4);
        return span >= 0 && span < 4 ? span % spans : span;
    }

    private int amount() {
        int value = below(100);
        return value >= 0 && value < 100 ? value % values : value;
    }

    private void both(String call, Check.Call ours, Check.Call theirs) {
        String due = Check.answerOf(theirs);
        String got = Check.answerOf(ours);
        told.add(call + " -> " + got);
        if (!got.equals(due) && !differs) {
            differs = true;
            System.out.println("a run that ends otherwise:");
            for (String line : told) {
                System.out.println("  " + line);
            }
        }
        check.due(call, due, () -> got);
    }

    /** Mostly a change that is there. */
    private int change() {
        return random.nextInt(isWild ? 8 : 60) == 0 ? below(16) : random.nextInt(Math.max(1, opened));
    }

    /** Mostly a change that is open, if a few draws find one. */
    private int openChange() {
        int n = change();
        for (int i = 0; i < 6; i++) {
            int drawn = n;
            if (Check.answerOf(() -> plain.stateOf(drawn)).equals("o")) {
                return n;
            }
            n = change();
        }
        return n;
    }

    private void oneCall() {
        int kind = random.nextInt(100);
        int n = random.nextBoolean() ? change() : openChange();
        if (kind < 10) {
            makeReady(openChange());
        } else if (kind < 16) {
            open();
        } else if (kind < 22) {
            edit(n);
        } else if (kind < 24) {
            int f = file();
            int s = span();
            both("take " + n + " " + f + " " + s, () -> x.take(n, f, s), () -> plain.take(n, f, s));
        } else if (kind < 32) {
            vote(n, random.nextInt(4) == 0 ? below(6) : below(2), random.nextInt(8) != 0);
        } else if (kind < 40) {
            both("queue " + n, () -> x.queue(n), () -> plain.queue(n));
        } else if (kind < 40 + steps) {
            both("step", x::step, plain::step);
        } else if (kind < 56) {
            both("update " + n, () -> x.update(n), () -> plain.update(n));
        } else if (kind < 61) {
            tests();
        } else if (kind < 64) {
            rareCall(n);
        } else if (kind < 64 + reverts) {
            both("revert " + n, () -> x.revert(n), () -> plain.revert(n));
        } else {
            ask(random.nextInt(20), n);
        }
    }

    /** The calls that bring a change into the queue, if nothing else keeps it out. */
    private void makeReady(int n) {
        both("update " + n, () -> x.update(n), () -> plain.update(n));
        for (int i = random.nextInt(4); i > 0; i--) {
            edit(n);
        }
        for (int d = 0; d < 4; d++) {
            int directory = d;
            String asked = Check.answerOf(() -> plain.asked(n, directory));
            if (!asked.startsWith("throws")) {
                vote(n, Integer.parseInt(asked), true);
            }
        }
        both("queue " + n, () -> x.queue(n), () -> plain.queue(n));
    }

    private void edit(int n) {
        int f = file();
        int s = span();
        int v = amount();
        both("edit " + n + " " + f + " " + s + " " + v, () -> x.edit(n, f, s, v), () -> plain.edit(n, f, s, v));
    }

    private void vote(int n, int p, boolean isFor) {
        both("vote " + n + " " + p + " " + isFor, () -> x.vote(n, p, isFor), () -> plain.vote(n, p, isFor));
    }

    private void open() {
        int p = random.nextInt(3) == 0 ? below(6) : 2 + random.nextInt(4);
        both("open " + p, () -> x.open(p), () -> plain.open(p));
        opened = Math.min(16, opened + 1);
    }

    private void tests() {
        if (random.nextInt(3) == 0) {
            int t = below(12);
            both("dropTest " + t, () -> x.dropTest(t), () -> plain.dropTest(t));
            return;
        }
        int f = file();
        int s = span();
        int of = file();
        int os = span();
        int drawn = below(199);
        int limit = drawn >= 0 && drawn < 199 ? drawn % (2 * values) : drawn;
        both("addTest " + f + " " + s + " " + of + " " + os + " " + limit,
                () -> x.addTest(f, s, of, os, limit), () -> plain.addTest(f, s, of, os, limit));
    }

    private void rareCall(int n) {
        int kind = random.nextInt(8);
        boolean yes = random.nextInt(3) == 0;
        int d = below(4);
        int p = below(6);
        if (kind == 0) {
            both("close " + n, () -> x.close(n), () -> plain.close(n));
        } else if (kind == 1) {
            both("unqueue " + n, () -> x.unqueue(n), () -> plain.unqueue(n));
        } else if (kind < 4) {
            both("setFrozen " + d + " " + yes, () -> x.setFrozen(d, yes), () -> plain.setFrozen(d, yes));
        } else if (kind < 6) {
            both("setAway " + p + " " + yes, () -> x.setAway(p, yes), () -> plain.setAway(p, yes));
        } else {
            int s = below(6);
            both("setOwner " + d + " " + p + " " + s, () -> x.setOwner(d, p, s), () -> plain.setOwner(d, p, s));
        }
    }

    private void ask(int kind, int n) {
        int d = below(4);
        int f = file();
        int s = span();
        int i = below(16);
        String place = f + " " + s;
        switch (kind) {
            case 0 -> both("verdict " + n + " " + d, () -> x.verdict(n, d), () -> plain.verdict(n, d));
            case 1 -> both("asked " + n + " " + d, () -> x.asked(n, d), () -> plain.asked(n, d));
            case 2 -> both("missing " + n, () -> x.missing(n), () -> plain.missing(n));
            case 3 -> both("queueAt " + i % 5, () -> x.queueAt(i % 5), () -> plain.queueAt(i % 5));
            case 4 -> both("stateOf " + n, () -> x.stateOf(n), () -> plain.stateOf(n));
            case 5 -> both("hasFailed " + n, () -> x.hasFailed(n), () -> plain.hasFailed(n));
            case 6 -> both("clashes " + n, () -> x.clashes(n), () -> plain.clashes(n));
            case 7 -> both("value " + place, () -> x.value(f, s), () -> plain.value(f, s));
            case 8 -> both("valueByMerges " + place, () -> x.valueByMerges(f, s), () -> plain.valueByMerges(f, s));
            case 9 -> both("valueWith " + n + " " + place, () -> x.valueWith(n, f, s), () -> plain.valueWith(n, f, s));
            case 10 -> both("along " + n, () -> x.along(n), () -> plain.along(n));
            case 11 -> both("mergedAt " + i, () -> x.mergedAt(i), () -> plain.mergedAt(i));
            case 12 -> both("isGood " + d, () -> x.isGood(d), () -> plain.isGood(d));
            case 13 -> both("builds", x::builds, plain::builds);
            case 14 -> both("taken", x::taken, plain::taken);
            case 15 -> both("takenShare", x::takenShare, plain::takenShare);
            case 16 -> both("meanEdits", x::meanEdits, plain::meanEdits);
            case 17 -> both("isSound", x::isSound, plain::isSound);
            case 18 -> both("mergedAt 0", () -> x.mergedAt(0), () -> plain.mergedAt(0));
            default -> both("queueAt 0", () -> x.queueAt(0), () -> plain.queueAt(0));
        }
    }
}
