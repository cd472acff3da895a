import java.util.ArrayList;
import java.util.List;
import java.util.function.Supplier;

/**
 * The terms' last paragraph, for every call of the face: all combinations of right and wrong
 * arguments throw the first of the exceptions that are due, NoSuchElementException,
 * IllegalArgumentException, IllegalStateException, and nothing is changed by it. Asked of a new
 * object, an ordinary one and a full one.
 */
public final class ExceptionsTest {
    /** A call of the face with its arguments. */
    private interface Call {
        Object make(TrenchMerge x, int[] a);
    }

    /** One argument, and the exception it calls for (or null). */
    private record Argument(int number, String wrong) {
    }

    /** A refused call. */
    private record Refused(Call call, int[] a) {
    }

    private static final int BATCH = 60;

    private final String state;
    private final Supplier<TrenchMerge> maker;
    private final boolean full;
    private final int made;
    private final String before;
    private final List<Refused> batch = new ArrayList<>();

    private ExceptionsTest(String state, Supplier<TrenchMerge> maker) {
        this.state = state;
        this.maker = maker;
        made = maker.get().count(0);
        full = made == States.ALL;
        before = Snapshot.of(maker);
    }

    public static void main(String[] args) {
        ExceptionsTest fresh = new ExceptionsTest("new", TrenchMerge::new);
        fresh.tellings(fresh.noTellings(), fresh.noTellings(), fresh.noTellings());
        fresh.answers(fresh.noTellings(), fresh.noTellings());
        for (ExceptionsTest test : List.of(
                new ExceptionsTest("ordinary", States::ordinary),
                new ExceptionsTest("full", States::full))) {
            test.tellings(test.places(), test.anyPlaces(), test.relations());
            test.answers(test.known(), test.madeOnes());
        }
        Check.finish();
    }

    private void tellings(Argument[] behind, Argument[] places, Argument[] relations) {
        Argument[] things = range(0, 15);
        makes("tell", (x, a) -> x.tell(a[0], a[1], a[2], a[3]),
                desks(), things, range(0, 1, 3), values(999));
        makes("tell", (x, a) -> x.tell(a[0], a[1], 2, a[2]), desks(), things, values(31));
        makes("insert", (x, a) -> x.insert(a[0], a[1], a[2], a[3]),
                desk0(), only(0, 0, 15), with(behind, fine(States.NONE)), values(999));
        makes("remove", (x, a) -> x.remove(a[0], a[1]),
                desk0(), with(places, noSuch(States.NONE)));
        makes("relate", (x, a) -> x.relate(a[0], a[1], a[2]),
                desks(), range(0, 15), only(7, 0, 15));
        makes("relate", (x, a) -> x.relate(a[0], a[1], a[1]), desks(),
                new Argument[] {wrong(0), wrong(15), noSuch(-1), noSuch(16)});
        makes("drop", (x, a) -> x.drop(a[0], a[1]),
                desk0(), with(relations, noSuch(States.NONE)));
        flush();
    }

    private void answers(Argument[] known, Argument[] ofAll) {
        Argument[] things = range(0, 15);
        Argument[] contexts = range(0, 15);
        asks("join", (x, a) -> x.join(a[0], a[1]), desks(), desks());
        asks("number", (x, a) -> x.number(a[0]), desks());
        asks("at", (x, a) -> x.at(a[0], a[1], a[2], a[3]), desks(), things, range(0, 3), ks());
        asks("place", (x, a) -> x.place(a[0], a[1], a[2]), desks(), things, ks());
        asks("order", (x, a) -> x.order(a[0], a[1], a[2]), desks(), contexts, contexts);
        asks("open", (x, a) -> x.open(a[0], a[1]), desks(), ks());
        asks("knows", (x, a) -> x.knows(a[0], a[1]), desks(), with(ofAll, noSuch(States.NONE)));
        asks("equal", (x, a) -> x.equal(a[0], a[1]), desks(), desks());
        asks("about", (x, a) -> x.about(a[0], a[1], a[2]),
                desk0(), with(known, noSuch(States.NONE)), wrongRange(0, 3));
        asks("count", (x, a) -> x.count(a[0]), wrongRange(0, 2));
        flush();
    }

    private static Argument fine(int number) {
        return new Argument(number, null);
    }

    private static Argument noSuch(int number) {
        return new Argument(number, Check.NO_SUCH);
    }

    private static Argument wrong(int number) {
        return new Argument(number, Check.ARGUMENT);
    }

    private static Argument[] with(Argument[] list, Argument... more) {
        Argument[] all = new Argument[list.length + more.length];
        System.arraycopy(list, 0, all, 0, list.length);
        System.arraycopy(more, 0, all, list.length, more.length);
        return all;
    }

    private static Argument[] edges(int first, int last, String wrong) {
        return new Argument[] {fine(first), fine(last), new Argument(first - 1, wrong),
            new Argument(last + 1, wrong), new Argument(Integer.MIN_VALUE, wrong),
            new Argument(Integer.MAX_VALUE, wrong)};
    }

    private static Argument[] range(int first, int last) {
        return edges(first, last, Check.NO_SUCH);
    }

    /** Right are first and last; the numbers between last and the first wrong one are left out. */
    private static Argument[] range(int first, int last, int firstWrong) {
        return new Argument[] {fine(first), fine(last), noSuch(first - 1), noSuch(firstWrong)};
    }

    private static Argument[] wrongRange(int first, int last) {
        return edges(first, last, Check.ARGUMENT);
    }

    /** Right is one number alone; wrong are those outside first .. last. */
    private static Argument[] only(int right, int first, int last) {
        return new Argument[] {fine(right), noSuch(first - 1), noSuch(last + 1)};
    }

    private static Argument[] values(int last) {
        return wrongRange(0, last);
    }

    private static Argument[] ks() {
        return new Argument[] {fine(0), fine(Integer.MAX_VALUE), noSuch(-1),
            noSuch(Integer.MIN_VALUE)};
    }

    private static Argument[] desks() {
        return range(0, 5);
    }

    /** Desk 0 alone knows the tellings that are asked for. */
    private static Argument[] desk0() {
        return only(0, 0, 5);
    }

    /** Tellings that no object has had, be it ever so full, and the next one of this object. */
    private Argument[] noTellings() {
        return new Argument[] {noSuch(made), noSuch(States.ALL), noSuch(-2),
            noSuch(Integer.MIN_VALUE), noSuch(Integer.MAX_VALUE)};
    }

    /** What desk 0 does not know, and tellings of no row, no place and no relation. */
    private Argument[] unfit() {
        return with(noTellings(), noSuch(States.FORGOTTEN), noSuch(States.UNKNOWN_PLACE),
                noSuch(States.UNKNOWN_RELATION), wrong(States.LATEST), wrong(States.SUM),
                wrong(States.UNION), wrong(States.REMOVAL), wrong(States.DROPPING));
    }

    private Argument[] anyPlaces() {
        return with(unfit(), fine(States.PLACE), fine(States.REMOVED),
                fine(States.PLACE_OF_THING_1), wrong(States.RELATION));
    }

    /** Those that another place of thing 0 can be told behind. */
    private Argument[] places() {
        return with(unfit(), fine(States.PLACE), fine(States.REMOVED),
                wrong(States.PLACE_OF_THING_1), wrong(States.RELATION));
    }

    private Argument[] relations() {
        return with(unfit(), fine(States.RELATION), fine(States.OPEN_RELATION),
                fine(States.DROPPED), wrong(States.PLACE));
    }

    private Argument[] known() {
        return with(noTellings(), noSuch(States.FORGOTTEN), noSuch(States.UNKNOWN_PLACE),
                fine(States.LATEST), fine(States.DROPPING));
    }

    private Argument[] madeOnes() {
        return with(noTellings(), fine(States.FORGOTTEN), fine(States.UNKNOWN_PLACE),
                fine(States.LATEST), fine(made - 1));
    }

    private void makes(String name, Call call, Argument[]... choices) {
        combine(name, call, full ? Check.STATE : null, true, choices);
    }

    private void asks(String name, Call call, Argument[]... choices) {
        combine(name, call, null, false, choices);
    }

    private void combine(String name, Call call, String atLast, boolean makes, Argument[][] choices) {
        int combinations = 1;
        for (Argument[] choice : choices) {
            combinations *= choice.length;
        }
        for (int i = 0; i < combinations; i++) {
            int[] a = new int[choices.length];
            String due = atLast;
            int rest = i;
            for (int j = 0; j < choices.length; j++) {
                Argument argument = choices[j][rest % choices[j].length];
                rest /= choices[j].length;
                a[j] = argument.number();
                due = first(due, argument.wrong());
            }
            check(state + ": " + name + java.util.Arrays.toString(a), call, a, due, makes);
        }
    }

    private static String first(String one, String other) {
        for (String exception : List.of(Check.NO_SUCH, Check.ARGUMENT, Check.STATE)) {
            if (exception.equals(one) || exception.equals(other)) {
                return exception;
            }
        }
        return null;
    }

    private void check(String what, Call call, int[] a, String due, boolean makes) {
        TrenchMerge x = maker.get();
        if (due != null) {
            Check.due(what, due, () -> call.make(x, a));
            batch.add(new Refused(call, a));
            if (batch.size() == BATCH) {
                flush();
            }
        } else if (makes) {
            Check.due(what, made, () -> call.make(x, a));
        } else {
            String answer = Check.answer(() -> call.make(x, a));
            Check.same(what + " throws", "false", String.valueOf(answer.startsWith("throws.")));
        }
    }

    private TrenchMerge refuseBatch() {
        TrenchMerge x = maker.get();
        for (Refused refused : batch) {
            Check.answer(() -> refused.call().make(x, refused.a()));
        }
        return x;
    }

    private void flush() {
        Check.same(state + ": all answers behind " + batch.size() + " refused calls",
                before, Snapshot.of(this::refuseBatch));
        batch.clear();
    }
}
