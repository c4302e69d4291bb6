import java.util.Objects;

/** Compares answers with those that are due, tells each one that differs, and ends the test with exit code 1 then. */
final class Expect {
    /** A call whose answer, or whose exception's name, is looked at. */
    interface Call {
        Object answer();
    }

    private final String test;
    private String words = "";
    private int comparedOfWords = 0;
    private int compared = 0;
    private int wrong = 0;

    Expect(String test) {
        this.test = test;
    }

    /** What is compared from here on shows whether these words of the document hold. */
    void words(String ofTheDocument) {
        endOfWords();
        words = "[" + ofTheDocument + "] ";
        comparedOfWords = 0;
    }

    /** Runs the parts of a test; one that an exception ends is wrong, and hides none of the others. */
    void each(Runnable... parts) {
        for (Runnable part : parts) {
            try {
                part.run();
            } catch (RuntimeException e) {
                same("the rest of it", e, "no exception");
            }
        }
    }

    private void endOfWords() {
        if (!words.isEmpty() && comparedOfWords == 0) {
            wrong++;
            System.out.println(test + ": " + words + "nothing is compared");
        }
    }

    void same(String what, Object got, Object due) {
        compared++;
        comparedOfWords++;
        if (!Objects.equals(got, due)) {
            wrong++;
            System.out.println(test + ": " + words + what + " answered " + got + ", due is " + due);
        }
    }

    void noIndex(String what, Call call) {
        same(what, outcome(call), "throws.IndexOutOfBoundsException");
    }

    void noArgument(String what, Call call) {
        same(what, outcome(call), "throws.IllegalArgumentException");
    }

    void noRoom(String what, Call call) {
        same(what, outcome(call), "throws.UnsupportedOperationException");
    }

    /** The exact class counts: what the machine throws by itself is of another one. */
    static Object outcome(Call call) {
        try {
            return call.answer();
        } catch (RuntimeException e) {
            return "throws." + e.getClass().getSimpleName();
        }
    }

    boolean isGood() {
        return wrong == 0;
    }

    void end() {
        endOfWords();
        System.out.println(test + ": " + compared + " answers, " + wrong + " wrong");
        if (wrong != 0 || compared == 0) {
            System.exit(1);
        }
    }
}
