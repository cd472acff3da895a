/** Promises 2 to 6: tellings of every sort are made. */
public final class TellingsTest {
    private static final int NONE = TrenchMerge.NONE;

    public static void main(String[] args) {
        tellGivesTellingsInTurn();
        tellKeepsToItsRanges();
        stampsFollowWhatTheDeskKnows();
        insertPutsPlacesBehindOthers();
        insertOrdersSiblingsByRank();
        insertRefuses();
        removeTakesPlacesOutOfTheRow();
        removeRefuses();
        relateMakesRelations();
        dropTakesRelationsBack();
        dropRefuses();
        noMoreThanAllTellings();
        Check.finish();
    }

    private static void tellGivesTellingsInTurn() {
        TrenchMerge x = new TrenchMerge();
        Check.due("first tell", 0, () -> x.tell(0, 0, 0, 0));
        Check.due("tell at the last desk", 1, () -> x.tell(5, 15, 1, 999));
        Check.due("tell of a union", 2, () -> x.tell(3, 7, 2, 31));
        Check.due("it is known at once", true, () -> x.knows(5, 1));
        Check.due("and by no other desk", false, () -> x.knows(0, 1));
        Check.due("its value stands", 999, () -> x.at(5, 15, 1, 0));
    }

    private static void tellKeepsToItsRanges() {
        TrenchMerge x = new TrenchMerge();
        Check.due("desk -1", Check.NO_SUCH, () -> x.tell(-1, 0, 0, 0));
        Check.due("desk 6", Check.NO_SUCH, () -> x.tell(6, 0, 0, 0));
        Check.due("thing -1", Check.NO_SUCH, () -> x.tell(0, -1, 0, 0));
        Check.due("thing 16", Check.NO_SUCH, () -> x.tell(0, 16, 0, 0));
        Check.due("field -1", Check.NO_SUCH, () -> x.tell(0, 0, -1, 0));
        Check.due("field 3 is not told", Check.NO_SUCH, () -> x.tell(0, 0, 3, 0));
        Check.due("v -1", Check.ARGUMENT, () -> x.tell(0, 0, 0, -1));
        Check.due("v 1000", Check.ARGUMENT, () -> x.tell(0, 0, 1, 1000));
        Check.due("v 32 in a union", Check.ARGUMENT, () -> x.tell(0, 0, 2, 32));
        Check.due("v -1 in a union", Check.ARGUMENT, () -> x.tell(0, 0, 2, -1));
        Check.due("the desk comes before the value", Check.NO_SUCH, () -> x.tell(6, 0, 0, 1000));
        Check.due("greatest int", Check.NO_SUCH, () -> x.tell(Integer.MAX_VALUE, 0, 0, 0));
        Check.due("least int", Check.ARGUMENT, () -> x.tell(0, 0, 0, Integer.MIN_VALUE));
        Check.due("none was made", 0, () -> x.count(0));
    }

    private static void stampsFollowWhatTheDeskKnows() {
        TrenchMerge x = new TrenchMerge();
        x.tell(0, 0, 0, 1);
        x.tell(0, 0, 0, 2);
        x.tell(1, 0, 0, 3);
        Check.due("first stamp", 1, () -> x.about(0, 0, 0));
        Check.due("second stamp", 2, () -> x.about(0, 1, 0));
        Check.due("first stamp at another desk", 1, () -> x.about(1, 2, 0));
        x.join(1, 0);
        x.relate(1, 0, 1);
        Check.due("stamp behind a join", 3, () -> x.about(1, 3, 0));
        x.tell(0, 0, 0, 4);
        Check.due("a join tells the other desk nothing", 3, () -> x.about(0, 4, 0));
    }

    private static void insertPutsPlacesBehindOthers() {
        TrenchMerge x = new TrenchMerge();
        Check.due("at the beginning", 0, () -> x.insert(0, 3, NONE, 10));
        Check.due("behind it", 1, () -> x.insert(0, 3, 0, 30));
        Check.due("between them", 2, () -> x.insert(0, 3, 0, 20));
        Check.due("at the beginning again", 3, () -> x.insert(0, 3, NONE, 0));
        Check.due("behind the last", 4, () -> x.insert(0, 3, 1, 999));
        Rows.due("the row", x, 0, 3, "0 10 20 30 999");
        Rows.due("another thing's row", x, 0, 4, "");
        Rows.due("another desk's row", x, 1, 3, "");
    }

    private static void insertOrdersSiblingsByRank() {
        TrenchMerge x = new TrenchMerge();
        x.insert(2, 0, NONE, 2);
        x.insert(1, 0, NONE, 1);
        x.insert(1, 0, 1, 11);
        x.insert(1, 0, 2, 12);
        x.join(2, 1);
        x.join(1, 2);
        Rows.due("equal stamps: the higher desk goes first", x, 1, 0, "2 1 11 12");
        x.insert(1, 0, 0, 21);
        x.insert(2, 0, 0, 22);
        x.insert(0, 0, NONE, 5);
        x.join(2, 1);
        x.join(2, 0);
        x.join(1, 2);
        Rows.due("each with all behind it", x, 2, 0, "2 22 21 1 11 12 5");
        Rows.due("equal knowledge, equal rows", x, 1, 0, "2 22 21 1 11 12 5");
    }

    private static void insertRefuses() {
        TrenchMerge x = new TrenchMerge();
        x.insert(0, 3, NONE, 10);
        x.tell(0, 3, 0, 1);
        x.remove(0, 0);
        x.relate(0, 1, 2);
        Check.due("desk 6", Check.NO_SUCH, () -> x.insert(6, 3, NONE, 1));
        Check.due("thing 16", Check.NO_SUCH, () -> x.insert(0, 16, NONE, 1));
        Check.due("thing -1", Check.NO_SUCH, () -> x.insert(0, -1, NONE, 1));
        Check.due("no such telling", Check.NO_SUCH, () -> x.insert(0, 3, 4, 1));
        Check.due("telling 120", Check.NO_SUCH, () -> x.insert(0, 3, 120, 1));
        Check.due("below NONE", Check.NO_SUCH, () -> x.insert(0, 3, -2, 1));
        Check.due("not known here", Check.NO_SUCH, () -> x.insert(1, 3, 0, 1));
        Check.due("unknown before a wrong value", Check.NO_SUCH, () -> x.insert(1, 3, 0, -1));
        Check.due("another row's place", Check.ARGUMENT, () -> x.insert(0, 4, 0, 1));
        Check.due("a field's telling", Check.ARGUMENT, () -> x.insert(0, 3, 1, 1));
        Check.due("a removal", Check.ARGUMENT, () -> x.insert(0, 3, 2, 1));
        Check.due("a relation", Check.ARGUMENT, () -> x.insert(0, 3, 3, 1));
        Check.due("v -1", Check.ARGUMENT, () -> x.insert(0, 3, NONE, -1));
        Check.due("v 1000", Check.ARGUMENT, () -> x.insert(0, 3, 0, 1000));
        Check.due("none was made", 4, () -> x.count(0));
    }

    private static void removeTakesPlacesOutOfTheRow() {
        TrenchMerge x = new TrenchMerge();
        x.insert(0, 3, NONE, 10);
        x.insert(0, 3, 0, 20);
        x.join(1, 0);
        Check.due("remove", 2, () -> x.remove(0, 0));
        Rows.due("those behind it stay", x, 0, 3, "20");
        Rows.due("as the other desk knows it", x, 1, 3, "10 20");
        Check.due("behind a removed place", 3, () -> x.insert(0, 3, 0, 15));
        Rows.due("it stands where it would", x, 0, 3, "15 20");
        Check.due("removed again", 4, () -> x.remove(0, 0));
        Check.due("and at the other desk", 5, () -> x.remove(1, 0));
        Rows.due("removed there, too", x, 1, 3, "20");
        x.join(2, 1);
        Rows.due("a third desk is told of it", x, 2, 3, "20");
        TrenchMerge y = new TrenchMerge();
        y.insert(0, 3, NONE, 10);
        y.join(1, 0);
        y.remove(1, 0);
        Rows.due("not where the place was told", y, 0, 3, "10");
        y.join(0, 1);
        Rows.due("before that desk is told", y, 0, 3, "");
    }

    private static void removeRefuses() {
        TrenchMerge x = new TrenchMerge();
        x.insert(0, 0, NONE, 1);
        x.tell(0, 0, 1, 1);
        x.relate(0, 1, 2);
        x.remove(0, 0);
        x.drop(0, 2);
        Check.due("desk -1", Check.NO_SUCH, () -> x.remove(-1, 0));
        Check.due("telling -1", Check.NO_SUCH, () -> x.remove(0, -1));
        Check.due("no such telling", Check.NO_SUCH, () -> x.remove(0, 5));
        Check.due("not known here", Check.NO_SUCH, () -> x.remove(1, 0));
        Check.due("a field's telling", Check.ARGUMENT, () -> x.remove(0, 1));
        Check.due("a relation", Check.ARGUMENT, () -> x.remove(0, 2));
        Check.due("a removal", Check.ARGUMENT, () -> x.remove(0, 3));
        Check.due("a dropping", Check.ARGUMENT, () -> x.remove(0, 4));
        Check.due("none was made", 5, () -> x.count(0));
    }

    private static void relateMakesRelations() {
        TrenchMerge x = new TrenchMerge();
        Check.due("relate", 0, () -> x.relate(0, 0, 15));
        Check.due("the same again", 1, () -> x.relate(0, 0, 15));
        Check.due("a ring is told, too", 2, () -> x.relate(0, 15, 0));
        Check.due("desk 6", Check.NO_SUCH, () -> x.relate(6, 0, 1));
        Check.due("a -1", Check.NO_SUCH, () -> x.relate(0, -1, 1));
        Check.due("b 16", Check.NO_SUCH, () -> x.relate(0, 1, 16));
        Check.due("no context before a is b", Check.NO_SUCH, () -> x.relate(0, 16, 16));
        Check.due("a is b", Check.ARGUMENT, () -> x.relate(0, 7, 7));
        Check.due("three were made", 3, () -> x.count(0));
    }

    private static void dropTakesRelationsBack() {
        TrenchMerge x = new TrenchMerge();
        x.relate(0, 1, 2);
        x.relate(0, 1, 2);
        x.join(1, 0);
        Check.due("drop", 2, () -> x.drop(0, 0));
        Check.due("the other one holds", 1, () -> x.order(0, 1, 2));
        Check.due("dropped again", 3, () -> x.drop(0, 0));
        Check.due("drop of the other one", 4, () -> x.drop(0, 1));
        Check.due("none holds", 0, () -> x.order(0, 1, 2));
        Check.due("as the other desk knows it", 1, () -> x.order(1, 1, 2));
        x.join(1, 0);
        Check.due("when it is told", 0, () -> x.order(1, 1, 2));
    }

    private static void dropRefuses() {
        TrenchMerge x = new TrenchMerge();
        x.insert(0, 0, NONE, 1);
        x.tell(0, 0, 1, 1);
        x.relate(0, 1, 2);
        x.remove(0, 0);
        x.drop(0, 2);
        Check.due("desk 6", Check.NO_SUCH, () -> x.drop(6, 2));
        Check.due("telling -1", Check.NO_SUCH, () -> x.drop(0, -1));
        Check.due("no such telling", Check.NO_SUCH, () -> x.drop(0, 5));
        Check.due("not known here", Check.NO_SUCH, () -> x.drop(1, 2));
        Check.due("a place", Check.ARGUMENT, () -> x.drop(0, 0));
        Check.due("a field's telling", Check.ARGUMENT, () -> x.drop(0, 1));
        Check.due("a removal", Check.ARGUMENT, () -> x.drop(0, 3));
        Check.due("a dropping", Check.ARGUMENT, () -> x.drop(0, 4));
        Check.due("none was made", 5, () -> x.count(0));
    }

    private static void noMoreThanAllTellings() {
        TrenchMerge x = new TrenchMerge();
        x.insert(0, 0, NONE, 1);
        x.relate(0, 1, 2);
        for (int made = 2; made < 120; made++) {
            int id = made;
            Check.due("telling " + id, id, () -> x.tell(0, 1, 0, id));
        }
        Check.due("tell", Check.STATE, () -> x.tell(0, 0, 0, 1));
        Check.due("insert", Check.STATE, () -> x.insert(0, 0, 0, 1));
        Check.due("remove", Check.STATE, () -> x.remove(0, 0));
        Check.due("relate", Check.STATE, () -> x.relate(0, 2, 1));
        Check.due("drop", Check.STATE, () -> x.drop(0, 1));
        Check.due("a wrong value comes first", Check.ARGUMENT, () -> x.tell(0, 0, 0, 1000));
        Check.due("a wrong place comes first", Check.ARGUMENT, () -> x.insert(0, 0, 1, 1));
        Check.due("no place comes first", Check.ARGUMENT, () -> x.remove(0, 1));
        Check.due("a is b comes first", Check.ARGUMENT, () -> x.relate(0, 2, 2));
        Check.due("no relation comes first", Check.ARGUMENT, () -> x.drop(0, 0));
        Check.due("an unknown one comes first", Check.NO_SUCH, () -> x.drop(1, 1));
        Rows.due("the place is not removed", x, 0, 0, "1");
        Check.due("the relation is not dropped", 1, () -> x.order(0, 1, 2));
        Check.due("120 were made", 120, () -> x.count(0));
        for (int desk = 1; desk < 6; desk++) {
            x.join(desk, 0);
        }
        Check.due("all but the latest are forgotten", 117, () -> x.compact());
        Check.due("forgotten ones were made all the same", Check.STATE, () -> x.tell(0, 0, 0, 1));
    }
}
