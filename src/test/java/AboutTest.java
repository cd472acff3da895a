/** Promise 16: what a desk can tell about a telling that it knows. */
public final class AboutTest {
    private static final int NONE = TrenchMerge.NONE;

    public static void main(String[] args) {
        eachSort();
        theLeastAndTheGreatestValues();
        theLeastAndTheGreatestRelations();
        theLeastAndTheGreatestTellings();
        eachDesk();
        noSuchDesk();
        noSuchTelling();
        tellingsThatTheDeskDoesNotKnow();
        whatIsNoneOfThese();
        theFirstOfSeveralExceptions();
        Check.finish();
    }

    private static void due(TrenchMerge x, int desk, int telling, int... want) {
        for (int i = 0; i < want.length; i++) {
            int what = i;
            Check.due("about " + telling + ", " + what, want[i], () -> x.about(desk, telling, what));
        }
    }

    private static void eachSort() {
        TrenchMerge x = new TrenchMerge();
        x.tell(1, 9, 0, 500);
        x.tell(1, 9, 1, 999);
        x.tell(2, 9, 2, 31);
        x.join(2, 1);
        x.insert(2, 9, NONE, 77);
        x.remove(2, 3);
        x.relate(2, 15, 14);
        x.drop(2, 5);
        due(x, 2, 0, 1, 1, 0, 500);
        due(x, 2, 1, 2, 1, 1, 999);
        due(x, 2, 2, 1, 2, 2, 31);
        due(x, 2, 3, 3, 2, 3, 77);
        due(x, 2, 4, 4, 2, 4, 3);
        due(x, 2, 5, 5, 2, 5, 254);
        due(x, 2, 6, 6, 2, 6, 5);
    }

    private static void theLeastAndTheGreatestValues() {
        TrenchMerge x = new TrenchMerge();
        int[] greatest = {999, 999, 31};
        for (int field = 0; field < 3; field++) {
            x.tell(0, 15, field, 0);
            x.tell(0, 15, field, greatest[field]);
            due(x, 0, 2 * field, 2 * field + 1, 0, field, 0);
            due(x, 0, 2 * field + 1, 2 * field + 2, 0, field, greatest[field]);
        }
        x.insert(0, 15, NONE, 0);
        x.insert(0, 15, NONE, 999);
        due(x, 0, 6, 7, 0, 3, 0);
        due(x, 0, 7, 8, 0, 3, 999);
    }

    private static void theLeastAndTheGreatestRelations() {
        TrenchMerge x = new TrenchMerge();
        x.relate(0, 0, 1);
        x.relate(0, 0, 15);
        x.relate(0, 15, 0);
        x.relate(0, 15, 14);
        due(x, 0, 0, 1, 0, 5, 1);
        due(x, 0, 1, 2, 0, 5, 15);
        due(x, 0, 2, 3, 0, 5, 240);
        due(x, 0, 3, 4, 0, 5, 254);
    }

    private static void theLeastAndTheGreatestTellings() {
        TrenchMerge x = new TrenchMerge();
        x.insert(0, 0, NONE, 9);
        x.remove(0, 0);
        States.fill(x, 0, 116);
        x.relate(0, 1, 2);
        x.drop(0, 118);
        due(x, 0, 0, 1, 0, 3, 9);
        due(x, 0, 1, 2, 0, 4, 0);
        due(x, 0, 119, 120, 0, 6, 118);
    }

    private static void eachDesk() {
        TrenchMerge x = new TrenchMerge();
        for (int desk = 5; desk >= 0; desk--) {
            x.tell(desk, 0, 0, desk);
        }
        States.joinAll(x);
        for (int desk = 0; desk < 6; desk++) {
            for (int at = 0; at < 6; at++) {
                due(x, at, 5 - desk, 1, desk, 0, desk);
            }
        }
    }

    private static void noSuchDesk() {
        Refused.outside("desk", Check.NO_SUCH, 0, 5, (x, desk) -> x.about(desk, States.LATEST, 0));
    }

    private static void noSuchTelling() {
        Refused.outside("telling", Check.NO_SUCH, 0, States.ORDINARY - 1,
                (x, telling) -> x.about(0, telling, 0));
        Refused.due("the last that can be", Check.NO_SUCH, x -> x.about(0, 119, 0));
        Refused.due("the first that cannot be", Check.NO_SUCH, x -> x.about(0, 120, 0));
        Refused.dueWhenFull("the first that cannot be", Check.NO_SUCH, x -> x.about(0, 120, 0));
    }

    private static void tellingsThatTheDeskDoesNotKnow() {
        for (int w = 0; w < 4; w++) {
            int what = w;
            Refused.due("told elsewhere", Check.NO_SUCH,
                    x -> x.about(0, States.UNKNOWN_PLACE, what));
            Refused.due("forgotten", Check.NO_SUCH, x -> x.about(0, States.FORGOTTEN, what));
            Refused.due("known elsewhere", Check.NO_SUCH, x -> x.about(5, States.PLACE, what));
        }
    }

    private static void whatIsNoneOfThese() {
        Refused.outside("what", Check.ARGUMENT, 0, 3, (x, what) -> x.about(0, States.LATEST, what));
        Refused.outside("what of a relation", Check.ARGUMENT, 0, 3,
                (x, what) -> x.about(0, States.RELATION, what));
    }

    private static void theFirstOfSeveralExceptions() {
        Refused.due("desk, what", Check.NO_SUCH, x -> x.about(6, States.LATEST, 4));
        Refused.due("telling, what", Check.NO_SUCH, x -> x.about(0, States.ORDINARY, -1));
        Refused.due("unknown, what", Check.NO_SUCH, x -> x.about(0, States.UNKNOWN_PLACE, 4));
        Refused.due("forgotten, what", Check.NO_SUCH, x -> x.about(0, States.FORGOTTEN, -1));
    }
}
