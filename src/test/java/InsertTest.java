/** Promise 3: a place in a thing's row is told behind another one, or at the beginning. */
public final class InsertTest {
    private static final int NONE = TrenchMerge.NONE;

    public static void main(String[] args) {
        itAnswersTheTelling();
        noneIsTheBeginning();
        theLeastAndTheGreatestValueAreTold();
        theFirstAndTheLastDeskAndThing();
        behindTheFirstAndTheLastTelling();
        noSuchDesk();
        noSuchThing();
        noSuchTelling();
        tellingsThatTheDeskDoesNotKnow();
        noPlaceOfThisRow();
        valuesOutside0To999();
        thereWere120();
        theFirstOfSeveralExceptions();
        Check.finish();
    }

    private static void itAnswersTheTelling() {
        TrenchMerge x = new TrenchMerge();
        Check.due("the first", 0, () -> x.insert(0, 3, NONE, 10));
        Check.due("behind it", 1, () -> x.insert(0, 3, 0, 30));
        Check.due("between them", 2, () -> x.insert(0, 3, 0, 20));
        Rows.due("the row", x, 0, 3, "10 20 30");
        Rows.due("another desk's row", x, 1, 3, "");
        Rows.due("another thing's row", x, 0, 4, "");
    }

    private static void noneIsTheBeginning() {
        TrenchMerge x = new TrenchMerge();
        x.insert(0, 0, NONE, 1);
        Rows.due("in an empty row", x, 0, 0, "1");
        x.insert(0, 0, -1, 2);
        Rows.due("before all others", x, 0, 0, "2 1");
    }

    private static void theLeastAndTheGreatestValueAreTold() {
        TrenchMerge x = new TrenchMerge();
        Check.due("least", 0, () -> x.insert(0, 0, NONE, 0));
        Check.due("greatest", 1, () -> x.insert(0, 0, 0, 999));
        Rows.due("both stand", x, 0, 0, "0 999");
    }

    private static void theFirstAndTheLastDeskAndThing() {
        TrenchMerge x = new TrenchMerge();
        Check.due("desk 0, thing 0", 0, () -> x.insert(0, 0, NONE, 1));
        Check.due("desk 5, thing 15", 1, () -> x.insert(5, 15, NONE, 2));
        Check.due("behind it", 2, () -> x.insert(5, 15, 1, 3));
        Rows.due("thing 0", x, 0, 0, "1");
        Rows.due("thing 15", x, 5, 15, "2 3");
    }

    private static void behindTheFirstAndTheLastTelling() {
        TrenchMerge x = new TrenchMerge();
        x.insert(0, 0, NONE, 1);
        States.fill(x, 0, 116);
        Check.due("behind telling 0", 117, () -> x.insert(0, 0, 0, 2));
        Check.due("behind the last one", 118, () -> x.insert(0, 0, 117, 3));
        Check.due("the last of all", 119, () -> x.insert(0, 0, 118, 4));
        Rows.due("the row", x, 0, 0, "1 2 3 4");
        Check.due("behind the last of all", Check.STATE, () -> x.insert(0, 0, 119, 5));
        Check.due("behind none that can be", Check.NO_SUCH, () -> x.insert(0, 0, 120, 5));
    }

    private static void noSuchDesk() {
        Refused.outside("desk", Check.NO_SUCH, 0, 5, (x, desk) -> x.insert(desk, 0, NONE, 1));
    }

    private static void noSuchThing() {
        Refused.outside("thing", Check.NO_SUCH, 0, 15, (x, thing) -> x.insert(0, thing, NONE, 1));
    }

    /** NONE is the number before 0, so the first one that is refused is -2. */
    private static void noSuchTelling() {
        Refused.outside("telling", Check.NO_SUCH, NONE, States.ORDINARY - 1,
                (x, telling) -> x.insert(0, 0, telling, 1));
        Refused.due("the last that can be", Check.NO_SUCH, x -> x.insert(0, 0, 119, 1));
        Refused.due("the first that cannot be", Check.NO_SUCH, x -> x.insert(0, 0, 120, 1));
        TrenchMerge fresh = new TrenchMerge();
        Check.due("itself", Check.NO_SUCH, () -> fresh.insert(0, 0, 0, 1));
    }

    private static void tellingsThatTheDeskDoesNotKnow() {
        Refused.due("told elsewhere", Check.NO_SUCH,
                x -> x.insert(0, 0, States.UNKNOWN_PLACE, 1));
        Refused.due("a relation told elsewhere", Check.NO_SUCH,
                x -> x.insert(0, 0, States.UNKNOWN_RELATION, 1));
        Refused.due("forgotten", Check.NO_SUCH, x -> x.insert(0, 0, States.FORGOTTEN, 1));
        Refused.due("known elsewhere", Check.NO_SUCH, x -> x.insert(5, 0, States.PLACE, 1));
    }

    private static void noPlaceOfThisRow() {
        int[] others = {States.PLACE_OF_THING_1, States.LATEST, States.SUM, States.UNION,
            States.REMOVAL, States.RELATION, States.OPEN_RELATION, States.DROPPING};
        for (int telling : others) {
            Refused.due("telling " + telling, Check.ARGUMENT, x -> x.insert(0, 0, telling, 1));
        }
        Refused.due("a place of thing 0", Check.ARGUMENT, x -> x.insert(0, 1, States.PLACE, 1));
    }

    private static void valuesOutside0To999() {
        Refused.outside("v", Check.ARGUMENT, 0, 999, (x, v) -> x.insert(0, 0, NONE, v));
        Refused.outside("v behind", Check.ARGUMENT, 0, 999,
                (x, v) -> x.insert(0, 0, States.PLACE, v));
    }

    private static void thereWere120() {
        Refused.dueWhenFull("at the beginning", Check.STATE, x -> x.insert(0, 0, NONE, 1));
        Refused.dueWhenFull("behind", Check.STATE, x -> x.insert(0, 0, States.PLACE, 1));
        Refused.dueWhenFull("in an empty row", Check.STATE, x -> x.insert(5, 15, NONE, 1));
    }

    private static void theFirstOfSeveralExceptions() {
        Refused.due("desk, row", Check.NO_SUCH, x -> x.insert(6, 0, States.SUM, 1));
        Refused.due("thing, row", Check.NO_SUCH, x -> x.insert(0, 16, States.SUM, 1));
        Refused.due("desk, value", Check.NO_SUCH, x -> x.insert(-1, 0, NONE, 1000));
        Refused.due("thing, value", Check.NO_SUCH, x -> x.insert(0, -1, NONE, -1));
        Refused.due("unknown, value", Check.NO_SUCH,
                x -> x.insert(0, 0, States.UNKNOWN_PLACE, 1000));
        Refused.due("unknown, row", Check.NO_SUCH,
                x -> x.insert(0, 1, States.UNKNOWN_PLACE, 1));
        Refused.due("row, value", Check.ARGUMENT, x -> x.insert(0, 0, States.SUM, 1000));
        Refused.dueWhenFull("desk", Check.NO_SUCH, x -> x.insert(6, 0, NONE, 1));
        Refused.dueWhenFull("thing", Check.NO_SUCH, x -> x.insert(0, 16, NONE, 1));
        Refused.dueWhenFull("unknown", Check.NO_SUCH,
                x -> x.insert(0, 0, States.UNKNOWN_PLACE, 1));
        Refused.dueWhenFull("row", Check.ARGUMENT,
                x -> x.insert(0, 0, States.PLACE_OF_THING_1, 1));
        Refused.dueWhenFull("value", Check.ARGUMENT, x -> x.insert(0, 0, NONE, 1000));
    }
}
