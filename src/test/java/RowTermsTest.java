/** The terms of rows: places behind one another, and removed ones. */
public final class RowTermsTest {
    private static final int NONE = TrenchMerge.NONE;

    public static void main(String[] args) {
        aRowWithoutPlacesIsEmpty();
        atTheBeginningTheHighestRankIsFirst();
        behindOneThatIsNotTheLast();
        behindTheSameOneHigherRanksComeFirst();
        eachStandsWithAllBehindIt();
        aHigherRankElsewhereDoesNotCount();
        anEarlierOneThatIsJoinedLaterFindsItsPlace();
        unknownPlacesLeaveNoGap();
        rowsOfThingsStandApart();
        aRowOfAllTellings();
        aRemovedPlaceIsNotTold();
        thoseBehindARemovedPlaceStay();
        othersAreToldBehindARemovedPlace();
        aPlaceIsRemovedAgain();
        allPlacesRemovedLeaveAnEmptyRow();
        aRemovalCountsWhereItIsKnown();
        Check.finish();
    }

    private static void aRowWithoutPlacesIsEmpty() {
        TrenchMerge x = new TrenchMerge();
        Rows.due("empty", x, 0, 0, "");
        Rows.due("empty, the last thing", x, 5, 15, "");
    }

    private static void atTheBeginningTheHighestRankIsFirst() {
        TrenchMerge x = new TrenchMerge();
        x.insert(0, 0, NONE, 1);
        x.insert(0, 0, NONE, 2);
        x.insert(0, 0, NONE, 3);
        Rows.due("the latest first", x, 0, 0, "3 2 1");
        x.insert(4, 0, NONE, 4);
        x.join(0, 4);
        Rows.due("equal stamps: the higher desk first", x, 0, 0, "3 2 4 1");
    }

    private static void behindOneThatIsNotTheLast() {
        TrenchMerge x = new TrenchMerge();
        x.insert(0, 3, NONE, 10);
        x.insert(0, 3, 0, 30);
        x.insert(0, 3, 0, 20);
        x.insert(0, 3, NONE, 5);
        x.insert(0, 3, 1, 40);
        Rows.due("the row", x, 0, 3, "5 10 20 30 40");
    }

    private static void behindTheSameOneHigherRanksComeFirst() {
        TrenchMerge x = new TrenchMerge();
        x.insert(0, 0, NONE, 1);
        States.spread(x);
        for (int desk = 5; desk >= 0; desk--) {
            x.insert(desk, 0, 0, 10 + desk);
        }
        x.insert(2, 0, 0, 22);
        States.joinAll(x);
        for (int desk = 0; desk < 6; desk++) {
            Rows.due("desk " + desk, x, desk, 0, "1 22 15 14 13 12 11 10");
        }
    }

    private static void eachStandsWithAllBehindIt() {
        TrenchMerge x = new TrenchMerge();
        x.insert(2, 0, NONE, 2);
        x.insert(1, 0, NONE, 1);
        x.insert(1, 0, 1, 11);
        x.insert(1, 0, 2, 12);
        x.join(2, 1);
        x.join(1, 2);
        x.insert(1, 0, 0, 21);
        x.insert(2, 0, 0, 22);
        x.insert(0, 0, NONE, 5);
        x.join(2, 1);
        x.join(2, 0);
        x.join(1, 2);
        Rows.due("desk 2", x, 2, 0, "2 22 21 1 11 12 5");
        Rows.due("desk 1", x, 1, 0, "2 22 21 1 11 12 5");
    }

    /** The place behind the first one has a low rank, the one it must stay before a high one. */
    private static void aHigherRankElsewhereDoesNotCount() {
        TrenchMerge x = new TrenchMerge();
        x.insert(0, 0, NONE, 1);
        x.insert(0, 0, NONE, 2);
        x.join(1, 0);
        x.tell(1, 5, 0, 0);
        x.tell(1, 5, 0, 0);
        x.insert(1, 0, 0, 3);
        x.insert(0, 0, 1, 4);
        x.join(0, 1);
        Rows.due("the row", x, 0, 0, "2 4 1 3");
    }

    private static void anEarlierOneThatIsJoinedLaterFindsItsPlace() {
        TrenchMerge x = new TrenchMerge();
        x.insert(0, 0, NONE, 1);
        x.join(1, 0);
        x.insert(0, 0, 0, 2);
        x.insert(0, 0, 1, 3);
        x.insert(0, 0, 2, 4);
        x.insert(1, 0, 0, 9);
        Rows.due("apart", x, 1, 0, "1 9");
        x.join(0, 1);
        Rows.due("equal stamps: the higher desk first", x, 0, 0, "1 9 2 3 4");
        x.insert(2, 0, NONE, 7);
        x.join(0, 2);
        Rows.due("at the beginning", x, 0, 0, "7 1 9 2 3 4");
    }

    private static void unknownPlacesLeaveNoGap() {
        TrenchMerge x = new TrenchMerge();
        x.insert(0, 0, NONE, 1);
        x.join(1, 0);
        x.insert(0, 0, 0, 2);
        x.insert(1, 0, 0, 3);
        x.insert(1, 0, 2, 4);
        Check.due("first of desk 1", 0, () -> x.place(1, 0, 0));
        Check.due("second of desk 1", 2, () -> x.place(1, 0, 1));
        Check.due("third of desk 1", 3, () -> x.place(1, 0, 2));
        Check.due("no fourth", NONE, () -> x.place(1, 0, 3));
        Check.due("second of desk 0", 1, () -> x.place(0, 0, 1));
        Check.due("no third", NONE, () -> x.place(0, 0, 2));
    }

    private static void rowsOfThingsStandApart() {
        TrenchMerge x = new TrenchMerge();
        for (int thing = 0; thing < 16; thing++) {
            x.insert(0, thing, NONE, 100 + thing);
        }
        for (int thing = 0; thing < 16; thing++) {
            Rows.due("thing " + thing, x, 0, thing, String.valueOf(100 + thing));
        }
    }

    private static void aRowOfAllTellings() {
        TrenchMerge chain = new TrenchMerge();
        TrenchMerge beginning = new TrenchMerge();
        for (int i = 0; i < 120; i++) {
            chain.insert(0, 15, i - 1, i);
            beginning.insert(0, 15, NONE, i);
        }
        for (int i = 0; i < 120; i++) {
            int k = i;
            Check.due("each behind the last", k, () -> chain.place(0, 15, k));
            Check.due("each at the beginning", 119 - k, () -> beginning.place(0, 15, k));
        }
        Check.due("the chain's end", NONE, () -> chain.place(0, 15, 120));
        Check.due("the other one's end", NONE, () -> beginning.place(0, 15, 120));
    }

    private static TrenchMerge threePlaces() {
        TrenchMerge x = new TrenchMerge();
        x.insert(0, 0, NONE, 1);
        x.insert(0, 0, 0, 2);
        x.insert(0, 0, 1, 3);
        return x;
    }

    private static void aRemovedPlaceIsNotTold() {
        String[] want = {"2 3", "1 3", "1 2"};
        for (int place = 0; place < 3; place++) {
            TrenchMerge x = threePlaces();
            x.remove(0, place);
            Rows.due("without " + place, x, 0, 0, want[place]);
        }
    }

    private static void thoseBehindARemovedPlaceStay() {
        TrenchMerge x = threePlaces();
        x.insert(0, 0, NONE, 9);
        x.remove(0, 0);
        Rows.due("the row", x, 0, 0, "9 2 3");
        x.insert(0, 0, 3, 8);
        Rows.due("told behind the one before", x, 0, 0, "9 8 2 3");
    }

    private static void othersAreToldBehindARemovedPlace() {
        TrenchMerge x = threePlaces();
        x.remove(0, 1);
        Check.due("behind a removed one", 4, () -> x.insert(0, 0, 1, 7));
        Rows.due("where it would stand", x, 0, 0, "1 7 3");
        x.insert(0, 0, 0, 6);
        Rows.due("behind the one before", x, 0, 0, "1 6 7 3");
    }

    private static void aPlaceIsRemovedAgain() {
        TrenchMerge x = threePlaces();
        x.join(1, 0);
        Check.due("removed", 3, () -> x.remove(0, 1));
        Check.due("again", 4, () -> x.remove(0, 1));
        Check.due("at a desk that does not know", 5, () -> x.remove(1, 1));
        Rows.due("it stays removed at the first desk", x, 0, 0, "1 3");
        Rows.due("and is removed at the second", x, 1, 0, "1 3");
        x.join(0, 1);
        Check.due("and once more", 6, () -> x.remove(0, 1));
        Rows.due("it is not told", x, 0, 0, "1 3");
        Check.due("each is a telling", 7, () -> x.count(0));
    }

    private static void allPlacesRemovedLeaveAnEmptyRow() {
        TrenchMerge x = threePlaces();
        x.remove(0, 0);
        x.remove(0, 2);
        x.remove(0, 1);
        Rows.due("empty", x, 0, 0, "");
        x.insert(0, 0, 1, 4);
        Rows.due("behind a removed one", x, 0, 0, "4");
    }

    private static void aRemovalCountsWhereItIsKnown() {
        TrenchMerge x = threePlaces();
        x.join(1, 0);
        x.remove(1, 0);
        Rows.due("where it was told", x, 1, 0, "2 3");
        Rows.due("where it is not known", x, 0, 0, "1 2 3");
        x.join(4, 0);
        Rows.due("joined without it", x, 4, 0, "1 2 3");
        x.join(4, 1);
        Rows.due("joined with it", x, 4, 0, "2 3");
        x.join(0, 4);
        Rows.due("by a third desk", x, 0, 0, "2 3");
        x.join(0, 5);
        Rows.due("it stays removed", x, 0, 0, "2 3");
    }
}
