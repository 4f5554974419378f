import java.util.NoSuchElementException;

/** What the project's tests share: a count of wrong answers, and calls whose exception is named. */
final class Check {
    static final String BOX = "IndexOutOfBoundsException";
    static final String ARGUMENT = "IllegalArgumentException";
    static final String STATE = "IllegalStateException";
    static final String ELEMENT = "NoSuchElementException";
    static final String UNSUPPORTED = "UnsupportedOperationException";

    private static int wrong = 0;
    private static int looked = 0;
    private static String sentence = "";

    private Check() {
    }

    /** A call that may throw; a boolean answer is given as 1 or 0. */
    interface Call {
        long answer();
    }

    /** The document's sentence that the answers from here on belong to; a wrong one is told with it. */
    static void sentence(String where, String words) {
        sentence = where + " \"" + words + "\": ";
    }

    static long bit(boolean b) {
        return b ? 1 : 0;
    }

    /** The answer as a text, or the very class of what was thrown. */
    static String outcome(Call call) {
        try {
            return Long.toString(call.answer());
        } catch (RuntimeException e) {
            return e.getClass() == NoSuchElementException.class ? ELEMENT : e.getClass().getSimpleName();
        }
    }

    static void text(String what, String got, String want) {
        looked++;
        if (!got.equals(want)) {
            wrong++;
            System.out.println(sentence + what + ": answered " + got + ", due is " + want);
        }
    }

    static void due(String what, Call call, long want) {
        text(what, outcome(call), Long.toString(want));
    }

    static void due(String what, boolean got, boolean want) {
        text(what, Boolean.toString(got), Boolean.toString(want));
    }

    static void thrown(String what, Call call, String want) {
        text(what, outcome(call), want);
    }

    static boolean anyWrong() {
        return wrong != 0;
    }

    static void end() {
        System.out.println(looked + " answers looked at, " + wrong + " wrong");
        if (wrong != 0) {
            System.exit(1);
        }
    }
}
