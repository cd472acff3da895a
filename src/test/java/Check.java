/** Counts the answers that are not as due, and ends a test with exit code 1 if there was one. */
final class Check {
    /** A call that a test makes, with whatever it answers. */
    interface Call {
        Object make();
    }

    static final String NO_SUCH = "throws.NoSuchElementException";
    static final String ARGUMENT = "throws.IllegalArgumentException";
    static final String STATE = "throws.IllegalStateException";

    private static final int SHOWN = 120;

    private static int wrong = 0;

    private Check() {
    }

    /** An exception is an answer, too, by the exact name of its class: one below it would be wrong. */
    static String answer(Call call) {
        try {
            return String.valueOf(call.make());
        } catch (RuntimeException e) {
            return "throws." + e.getClass().getSimpleName();
        }
    }

    static void due(String what, Object want, Call call) {
        same(what, String.valueOf(want), answer(call));
    }

    static void same(String what, String want, String got) {
        if (!want.equals(got)) {
            wrong++;
            int from = firstDifference(want, got);
            System.out.println(what + " answered " + part(got, from) + ", due is " + part(want, from));
        }
    }

    static void finish() {
        if (wrong != 0) {
            System.out.println(wrong + " answers are not as due");
            System.exit(1);
        }
    }

    private static int firstDifference(String one, String other) {
        int i = 0;
        while (i < one.length() && i < other.length() && one.charAt(i) == other.charAt(i)) {
            i++;
        }
        return i;
    }

    /** Texts of all answers are long: the piece round the first difference tells enough. */
    private static String part(String text, int from) {
        if (text.length() <= SHOWN) {
            return text;
        }
        int start = Math.max(0, Math.min(from, text.length()) - SHOWN / 2);
        return ".." + text.substring(start, Math.min(text.length(), start + SHOWN)) + "..";
    }
}
