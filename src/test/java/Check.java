/** Counts what was checked, and prints every answer that is not the one that is due. */
final class Check {
    interface Call {
        Object answer();
    }

    private final String name;
    private int checked;
    private int wrong;

    Check(String name) {
        this.name = name;
    }

    /** An answer is told as text; a call that throws answers throws.NameOfTheException. */
    static String answerOf(Call call) {
        try {
            return String.valueOf(call.answer());
        } catch (RuntimeException e) {
            return "throws." + e.getClass().getSimpleName();
        }
    }

    void due(String what, Object want, Call call) {
        checked++;
        String got = answerOf(call);
        if (!got.equals(String.valueOf(want))) {
            wrong++;
            System.out.println(what + " answered " + got + ", due is " + want);
        }
    }


    void badArgument(String what, Call call) {
        due(what, "throws.IllegalArgumentException", call);
    }

    void badIndex(String what, Call call) {
        due(what, "throws.IndexOutOfBoundsException", call);
    }

    void badState(String what, Call call) {
        due(what, "throws.IllegalStateException", call);
    }

    void noElement(String what, Call call) {
        due(what, "throws.NoSuchElementException", call);
    }

    void unsupported(String what, Call call) {
        due(what, "throws.UnsupportedOperationException", call);
    }

    void badArithmetic(String what, Call call) {
        due(what, "throws.ArithmeticException", call);
    }

    /** Ends the test with exit code 1 if an answer was wrong. */
    void end() {
        System.out.println(name + ": " + checked + " checked, " + wrong + " wrong");
        if (wrong != 0 || checked == 0) {
            System.exit(1);
        }
    }
}
