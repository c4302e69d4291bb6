import java.util.Objects;

/** Compares answers with those that are due, tells each one that differs, and ends the test with exit code 1 then. */
final class Expect {
    /** A call whose answer, or whose exception's name, is looked at. */
    interface Call {
        Object answer();
    }

    private final String test;
    private int compared = 0;
    private int wrong = 0;

    Expect(String test) {
        this.test = test;
    }

    void same(String what, Object got, Object due) {
        compared++;
        if (!Objects.equals(got, due)) {
            wrong++;
            System.out.println(test + ": " + what + " answered " + got + ", due is " + due);
        }
    }

    void noIndex(String what, Call call) {
        same(what, outcome(call), "throws.IndexOutOfBoundsException");
    }

    void noArgument(String what, Call call) {
        same(what, outcome(call), "throws.IllegalArgumentException");
    }

    void noRoom(String what, Call call) {
        same(what, outcome(call), "throws.UnsupportedOperationException");
    }

    /** The exact class counts: what the machine throws by itself is of another one. */
    static Object outcome(Call call) {
        try {
            return call.answer();
        } catch (RuntimeException e) {
            return "throws." + e.getClass().getSimpleName();
        }
    }

    boolean isGood() {
        return wrong == 0;
    }

    void end() {
        System.out.println(test + ": " + compared + " answers, " + wrong + " wrong");
        if (wrong != 0 || compared == 0) {
            System.exit(1);
        }
    }
}
