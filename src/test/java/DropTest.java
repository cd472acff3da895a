/** Promise 6: a relation is dropped. */
public final class DropTest {
    public static void main(String[] args) {
        itAnswersTheTelling();
        theFirstAndTheLastDeskAndTelling();
        anOpenRelationIsDroppedToo();
        noSuchDesk();
        noSuchTelling();
        tellingsThatTheDeskDoesNotKnow();
        noRelation();
        thereWere120();
        theFirstOfSeveralExceptions();
        Check.finish();
    }

    private static void itAnswersTheTelling() {
        TrenchMerge x = new TrenchMerge();
        x.relate(0, 1, 2);
        x.relate(0, 2, 3);
        Check.due("drop", 2, () -> x.drop(0, 0));
        Check.due("it does not hold", 0, () -> x.order(0, 1, 2));
        Check.due("the other one does", 1, () -> x.order(0, 2, 3));
        Check.due("its sort", 6, () -> x.about(0, 2, 2));
        Check.due("what it drops", 0, () -> x.about(0, 2, 3));
        Check.due("the dropped relation is known", 16 + 2, () -> x.about(0, 0, 3));
    }

    private static void theFirstAndTheLastDeskAndTelling() {
        TrenchMerge x = new TrenchMerge();
        x.relate(0, 0, 1);
        States.fill(x, 0, 116);
        x.relate(0, 14, 15);
        x.join(5, 0);
        Check.due("telling 0 at desk 0", 118, () -> x.drop(0, 0));
        Check.due("the last relation at desk 5", 119, () -> x.drop(5, 117));
        Check.due("desk 0, the first", 0, () -> x.order(0, 0, 1));
        Check.due("desk 0, the last", 1, () -> x.order(0, 14, 15));
        Check.due("desk 5, the first", 1, () -> x.order(5, 0, 1));
        Check.due("desk 5, the last", 0, () -> x.order(5, 14, 15));
    }

    private static void anOpenRelationIsDroppedToo() {
        TrenchMerge x = new TrenchMerge();
        x.relate(0, 1, 2);
        x.relate(0, 2, 1);
        Check.due("drop", 2, () -> x.drop(0, 1));
        Check.due("none stands open", TrenchMerge.NONE, () -> x.open(0, 0));
        x.drop(0, 0);
        Check.due("nor does it hold", 0, () -> x.order(0, 2, 1));
    }

    private static void noSuchDesk() {
        Refused.outside("desk", Check.NO_SUCH, 0, 5, (x, desk) -> x.drop(desk, States.RELATION));
    }

    private static void noSuchTelling() {
        Refused.outside("telling", Check.NO_SUCH, 0, States.ORDINARY - 1,
                (x, telling) -> x.drop(0, telling));
        Refused.due("the last that can be", Check.NO_SUCH, x -> x.drop(0, 119));
        Refused.due("the first that cannot be", Check.NO_SUCH, x -> x.drop(0, 120));
        Refused.dueWhenFull("the first that cannot be", Check.NO_SUCH, x -> x.drop(0, 120));
    }

    private static void tellingsThatTheDeskDoesNotKnow() {
        Refused.due("told elsewhere", Check.NO_SUCH, x -> x.drop(0, States.UNKNOWN_RELATION));
        Refused.due("known elsewhere", Check.NO_SUCH, x -> x.drop(5, States.RELATION));
        Refused.due("forgotten", Check.NO_SUCH, x -> x.drop(0, States.FORGOTTEN));
    }

    private static void noRelation() {
        int[] others = {States.LATEST, States.SUM, States.UNION, States.PLACE, States.REMOVED,
            States.REMOVAL, States.DROPPING};
        for (int telling : others) {
            Refused.due("telling " + telling, Check.ARGUMENT, x -> x.drop(0, telling));
        }
    }

    private static void thereWere120() {
        Refused.dueWhenFull("a relation", Check.STATE, x -> x.drop(0, States.RELATION));
        Refused.dueWhenFull("an open one", Check.STATE, x -> x.drop(0, States.OPEN_RELATION));
        Refused.dueWhenFull("a dropped one", Check.STATE, x -> x.drop(0, States.DROPPED));
    }

    private static void theFirstOfSeveralExceptions() {
        Refused.due("desk, no relation", Check.NO_SUCH, x -> x.drop(6, States.SUM));
        Refused.due("unknown, no relation", Check.NO_SUCH,
                x -> x.drop(0, States.UNKNOWN_PLACE));
        Refused.dueWhenFull("desk", Check.NO_SUCH, x -> x.drop(-1, States.RELATION));
        Refused.dueWhenFull("unknown", Check.NO_SUCH, x -> x.drop(0, States.UNKNOWN_RELATION));
        Refused.dueWhenFull("no relation", Check.ARGUMENT, x -> x.drop(0, States.PLACE));
    }
}
