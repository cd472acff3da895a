/** Promise 4: a place is removed. */
public final class RemoveTest {
    private static final int NONE = TrenchMerge.NONE;

    public static void main(String[] args) {
        itAnswersTheTelling();
        theFirstAndTheLastDeskAndTelling();
        aPlaceThatAnotherDeskTold();
        noSuchDesk();
        noSuchTelling();
        tellingsThatTheDeskDoesNotKnow();
        noPlaceInARow();
        thereWere120();
        theFirstOfSeveralExceptions();
        Check.finish();
    }

    private static void itAnswersTheTelling() {
        TrenchMerge x = new TrenchMerge();
        x.insert(0, 3, NONE, 10);
        x.insert(0, 3, 0, 20);
        Check.due("remove", 2, () -> x.remove(0, 0));
        Rows.due("the row", x, 0, 3, "20");
        Check.due("its sort", 4, () -> x.about(0, 2, 2));
        Check.due("what it removes", 0, () -> x.about(0, 2, 3));
        Check.due("the removed place is known", 10, () -> x.about(0, 0, 3));
    }

    private static void theFirstAndTheLastDeskAndTelling() {
        TrenchMerge x = new TrenchMerge();
        x.insert(0, 0, NONE, 1);
        States.fill(x, 0, 116);
        x.insert(0, 15, NONE, 2);
        x.join(5, 0);
        Check.due("telling 0 at desk 0", 118, () -> x.remove(0, 0));
        Check.due("the last place at desk 5", 119, () -> x.remove(5, 117));
        Rows.due("desk 0, thing 0", x, 0, 0, "");
        Rows.due("desk 0, thing 15", x, 0, 15, "2");
        Rows.due("desk 5, thing 0", x, 5, 0, "1");
        Rows.due("desk 5, thing 15", x, 5, 15, "");
    }

    private static void aPlaceThatAnotherDeskTold() {
        TrenchMerge x = new TrenchMerge();
        x.insert(0, 3, NONE, 10);
        x.join(1, 0);
        Check.due("remove", 1, () -> x.remove(1, 0));
        Rows.due("at its own desk", x, 0, 3, "10");
        Rows.due("where it was removed", x, 1, 3, "");
    }

    private static void noSuchDesk() {
        Refused.outside("desk", Check.NO_SUCH, 0, 5, (x, desk) -> x.remove(desk, States.PLACE));
    }

    private static void noSuchTelling() {
        Refused.outside("telling", Check.NO_SUCH, 0, States.ORDINARY - 1,
                (x, telling) -> x.remove(0, telling));
        Refused.due("the last that can be", Check.NO_SUCH, x -> x.remove(0, 119));
        Refused.due("the first that cannot be", Check.NO_SUCH, x -> x.remove(0, 120));
        Refused.dueWhenFull("the first that cannot be", Check.NO_SUCH, x -> x.remove(0, 120));
    }

    private static void tellingsThatTheDeskDoesNotKnow() {
        Refused.due("told elsewhere", Check.NO_SUCH, x -> x.remove(0, States.UNKNOWN_PLACE));
        Refused.due("known elsewhere", Check.NO_SUCH, x -> x.remove(5, States.PLACE));
        Refused.due("forgotten", Check.NO_SUCH, x -> x.remove(0, States.FORGOTTEN));
    }

    private static void noPlaceInARow() {
        int[] others = {States.LATEST, States.SUM, States.UNION, States.REMOVAL,
            States.RELATION, States.OPEN_RELATION, States.DROPPED, States.DROPPING};
        for (int telling : others) {
            Refused.due("telling " + telling, Check.ARGUMENT, x -> x.remove(0, telling));
        }
    }

    private static void thereWere120() {
        Refused.dueWhenFull("a place", Check.STATE, x -> x.remove(0, States.PLACE));
        Refused.dueWhenFull("a removed place", Check.STATE, x -> x.remove(0, States.REMOVED));
    }

    private static void theFirstOfSeveralExceptions() {
        Refused.due("desk, no place", Check.NO_SUCH, x -> x.remove(6, States.SUM));
        Refused.due("unknown, no place", Check.NO_SUCH,
                x -> x.remove(0, States.UNKNOWN_RELATION));
        Refused.dueWhenFull("desk", Check.NO_SUCH, x -> x.remove(-1, States.PLACE));
        Refused.dueWhenFull("unknown", Check.NO_SUCH, x -> x.remove(0, States.UNKNOWN_PLACE));
        Refused.dueWhenFull("no place", Check.ARGUMENT, x -> x.remove(0, States.SUM));
    }
}
