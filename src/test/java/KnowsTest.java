/** Promise 13: whether a desk knows a telling. */
public final class KnowsTest {
    public static void main(String[] args) {
        theDeskThatMadeItKnows();
        tellingsOfEachSortAreKnown();
        theFirstAndTheLastTelling();
        forgottenOnesAreKnownNowhere();
        noSuchDesk();
        noSuchTelling();
        Check.finish();
    }

    private static void theDeskThatMadeItKnows() {
        TrenchMerge x = new TrenchMerge();
        x.relate(4, 1, 2);
        Check.due("its own desk", true, () -> x.knows(4, 0));
        Check.due("another desk", false, () -> x.knows(3, 0));
        x.join(3, 4);
        Check.due("a desk that joined it", true, () -> x.knows(3, 0));
        Check.due("one that did not", false, () -> x.knows(5, 0));
    }

    private static void tellingsOfEachSortAreKnown() {
        TrenchMerge x = States.ordinary();
        for (int t = 0; t < States.ORDINARY; t++) {
            int telling = t;
            Check.due("desk 0, " + telling,
                    telling != States.FORGOTTEN && telling < States.UNKNOWN_PLACE,
                    () -> x.knows(0, telling));
            Check.due("desk 1, " + telling, telling != States.FORGOTTEN, () -> x.knows(1, telling));
            Check.due("desk 5, " + telling, telling == States.LATEST, () -> x.knows(5, telling));
        }
    }

    private static void theFirstAndTheLastTelling() {
        TrenchMerge x = new TrenchMerge();
        States.fill(x, 5, 119);
        Check.due("not yet", Check.NO_SUCH, () -> x.knows(5, 119));
        x.tell(0, 0, 0, 1);
        Check.due("the first", true, () -> x.knows(5, 0));
        Check.due("the last", true, () -> x.knows(0, 119));
        Check.due("the last, elsewhere", false, () -> x.knows(5, 119));
        Check.due("no more", Check.NO_SUCH, () -> x.knows(5, 120));
    }

    private static void forgottenOnesAreKnownNowhere() {
        TrenchMerge x = States.ordinary();
        for (int d = 0; d < 6; d++) {
            int desk = d;
            Check.due("desk " + desk, false, () -> x.knows(desk, States.FORGOTTEN));
        }
    }

    private static void noSuchDesk() {
        Refused.outside("desk", Check.NO_SUCH, 0, 5, (x, desk) -> x.knows(desk, States.LATEST));
    }

    private static void noSuchTelling() {
        Refused.outside("telling", Check.NO_SUCH, 0, States.ORDINARY - 1,
                (x, telling) -> x.knows(0, telling));
        Refused.due("the last that can be", Check.NO_SUCH, x -> x.knows(0, 119));
        Refused.due("the first that cannot be", Check.NO_SUCH, x -> x.knows(0, 120));
        Refused.dueWhenFull("the first that cannot be", Check.NO_SUCH, x -> x.knows(0, 120));
    }
}
