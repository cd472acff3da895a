/** Promise 5: a relation is told. */
public final class RelateTest {
    public static void main(String[] args) {
        itAnswersTheTelling();
        theFirstAndTheLastDeskAndContexts();
        aRingIsToldToo();
        noSuchDesk();
        noSuchContext();
        aIsB();
        thereWere120();
        theFirstOfSeveralExceptions();
        Check.finish();
    }

    private static void itAnswersTheTelling() {
        TrenchMerge x = new TrenchMerge();
        Check.due("the first", 0, () -> x.relate(0, 3, 4));
        Check.due("the same again is another one", 1, () -> x.relate(0, 3, 4));
        Check.due("its sort", 5, () -> x.about(0, 1, 2));
        Check.due("a is above b", 1, () -> x.order(0, 3, 4));
    }

    private static void theFirstAndTheLastDeskAndContexts() {
        TrenchMerge x = new TrenchMerge();
        Check.due("0 above 15", 0, () -> x.relate(0, 0, 15));
        Check.due("15 above 0", 1, () -> x.relate(5, 15, 0));
        Check.due("desk 0", 1, () -> x.order(0, 0, 15));
        Check.due("desk 5", 1, () -> x.order(5, 15, 0));
    }

    private static void aRingIsToldToo() {
        TrenchMerge x = new TrenchMerge();
        x.relate(0, 1, 2);
        Check.due("it would ring", 1, () -> x.relate(0, 2, 1));
        Check.due("it is known", true, () -> x.knows(0, 1));
        Check.due("and stands open", 1, () -> x.open(0, 0));
    }

    private static void noSuchDesk() {
        Refused.outside("desk", Check.NO_SUCH, 0, 5, (x, desk) -> x.relate(desk, 7, 8));
    }

    private static void noSuchContext() {
        Refused.outside("a", Check.NO_SUCH, 0, 15, (x, a) -> x.relate(0, a, 7));
        Refused.outside("b", Check.NO_SUCH, 0, 15, (x, b) -> x.relate(0, 7, b));
    }

    private static void aIsB() {
        for (int c = 0; c < 16; c++) {
            int context = c;
            Refused.due("context " + context, Check.ARGUMENT, x -> x.relate(0, context, context));
        }
    }

    private static void thereWere120() {
        Refused.dueWhenFull("a relation", Check.STATE, x -> x.relate(0, 7, 8));
        Refused.dueWhenFull("one that would ring", Check.STATE, x -> x.relate(0, 2, 1));
    }

    private static void theFirstOfSeveralExceptions() {
        Refused.due("desk, a is b", Check.NO_SUCH, x -> x.relate(6, 7, 7));
        Refused.outside("no context, a is b", Check.NO_SUCH, 0, 15, (x, c) -> x.relate(0, c, c));
        Refused.dueWhenFull("desk", Check.NO_SUCH, x -> x.relate(6, 7, 8));
        Refused.dueWhenFull("a", Check.NO_SUCH, x -> x.relate(0, 16, 8));
        Refused.dueWhenFull("b", Check.NO_SUCH, x -> x.relate(0, 7, -1));
        Refused.dueWhenFull("a is b", Check.ARGUMENT, x -> x.relate(0, 7, 7));
    }
}
