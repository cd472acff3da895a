import java.util.function.Supplier;

/** Calls that are refused: each throws the exception that is due, and changes nothing. */
final class Refused {
    /** A call that is to be refused. */
    interface Call {
        Object make(TrenchMerge x);
    }

    /** A call with one number in question. */
    interface NumberCall {
        Object make(TrenchMerge x, int number);
    }

    private static final String ORDINARY = Snapshot.of(States::ordinary);
    private static final String FULL = Snapshot.of(States::full);

    private Refused() {
    }

    /** By an ordinary object. */
    static void due(String what, String exception, Call call) {
        check(what, exception, call, States::ordinary, ORDINARY);
    }

    /** By an object with all tellings that there can be. */
    static void dueWhenFull(String what, String exception, Call call) {
        check(what + ", full", exception, call, States::full, FULL);
    }

    /**
     * Numbers outside first .. last: next to it, as far from it as can be, and where a narrower
     * number would wrap around into it.
     */
    static void outside(String what, String exception, int first, int last, NumberCall call) {
        int[] numbers = {first - 1, last + 1, Integer.MIN_VALUE, Integer.MAX_VALUE,
            first + 65536, last - 65536};
        for (int number : numbers) {
            due(what + " " + number, exception, x -> call.make(x, number));
        }
    }

    /** A k has no upper end: the first one below 0 and the last one. */
    static void below0(String what, String exception, NumberCall call) {
        due(what + " -1", exception, x -> call.make(x, -1));
        due(what + " least", exception, x -> call.make(x, Integer.MIN_VALUE));
    }

    private static void check(String what, String exception, Call call,
            Supplier<TrenchMerge> maker, String before) {
        TrenchMerge x = maker.get();
        Check.due(what, exception, () -> call.make(x));
        Check.same(what + ": all answers afterwards", before, Snapshot.of(() -> {
            TrenchMerge y = maker.get();
            Check.answer(() -> call.make(y));
            return y;
        }));
    }
}
