import java.util.Map;

/**
 * What of a room can be asked, so that two rooms can be held against each other. Each question is told
 * with its answer; one that was asked before has a number behind it.
 */
final class Views {
    interface View {
        void ask(Branchyard x, Map<String, String> told);
    }

    private Views() {
    }

    static void tell(Map<String, String> told, String question, Check.Call call) {
        String name = question;
        for (int i = 2; told.containsKey(name); i++) {
            name = question + " #" + i;
        }
        told.put(name, Check.answerOf(call));
    }

    /** Asks about as many changes, and one more; first what no question could have changed before. */
    static void states(Branchyard x, Map<String, String> told, int changes) {
        for (int n = 0; n <= changes; n++) {
            int c = n;
            tell(told, "stateOf " + c, () -> x.stateOf(c));
            tell(told, "hasFailed " + c, () -> x.hasFailed(c));
            tell(told, "clashes " + c, () -> x.clashes(c));
            tell(told, "queueAt " + c, () -> x.queueAt(c));
            tell(told, "mergedAt " + c, () -> x.mergedAt(c));
        }
        for (int n = 0; n <= changes; n++) {
            int c = n;
            tell(told, "missing " + c, () -> x.missing(c));
            tell(told, "along " + c, () -> x.along(c));
            for (int directory = 0; directory < 4; directory++) {
                int d = directory;
                tell(told, "verdict " + c + " " + d, () -> x.verdict(c, d));
                tell(told, "asked " + c + " " + d, () -> x.asked(c, d));
            }
        }
        for (int directory = 0; directory < 4; directory++) {
            int d = directory;
            tell(told, "isGood " + d, () -> x.isGood(d));
        }
        tell(told, "meanEdits", x::meanEdits);
        tell(told, "isSound", x::isSound);
        counts(x, told);
        tell(told, "takenShare", x::takenShare);
    }

    static void counts(Branchyard x, Map<String, String> told) {
        tell(told, "builds", x::builds);
        tell(told, "taken", x::taken);
    }

    /** All values of the trunk, and those of these places with each of the changes. */
    static void values(Branchyard x, Map<String, String> told, int changes, int[][] places) {
        for (int place = 0; place < 64; place++) {
            int f = place / 4;
            int s = place % 4;
            tell(told, "value " + f + " " + s, () -> x.value(f, s));
            tell(told, "valueByMerges " + f + " " + s, () -> x.valueByMerges(f, s));
        }
        for (int n = 0; n <= changes; n++) {
            for (int[] place : places) {
                int c = n;
                tell(told, "valueWith " + c + " " + place[0] + " " + place[1],
                        () -> x.valueWith(c, place[0], place[1]));
            }
        }
    }

    /** Every person is made the owner everywhere, so that the votes of all are seen; the word names the verdicts. */
    static void votes(Branchyard x, Map<String, String> told, String word, int... changes) {
        for (int person = 0; person < 6; person++) {
            int p = person;
            tell(told, "away " + p, () -> x.setAway(p, false));
        }
        for (int person = 0; person < 6; person++) {
            for (int directory = 0; directory < 4; directory++) {
                int p = person;
                int d = directory;
                tell(told, "owner " + d, () -> x.setOwner(d, p, (p + 1) % 6));
                for (int c : changes) {
                    tell(told, word + " " + c + " " + d + " of " + p, () -> x.verdict(c, d));
                }
            }
        }
    }

    /** With everybody away, the stand-ins are asked; setOwner tells the owners before. */
    static void people(Branchyard x, Map<String, String> told, int changes) {
        for (int person = 0; person < 6; person++) {
            int p = person;
            tell(told, "away " + p, () -> x.setAway(p, true));
        }
        for (int directory = 0; directory < 4; directory++) {
            int d = directory;
            for (int n = 0; n < changes; n++) {
                int c = n;
                tell(told, "askedAllAway " + c + " " + d, () -> x.asked(c, d));
            }
            tell(told, "owner " + d, () -> x.setOwner(d, 0, 1));
            tell(told, "frozen " + d, () -> x.setFrozen(d, true));
        }
    }
}
