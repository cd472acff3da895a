/** Promise 2: a value of a field 0 .. 2 of a thing is told at a desk. */
public final class TellTest {
    public static void main(String[] args) {
        itAnswersTheTelling();
        theLeastAndTheGreatestValuesAreTold();
        theFirstAndTheLastDeskAndThing();
        noSuchDesk();
        noSuchThing();
        noSuchField();
        valuesOutside0To999();
        valuesOfTheUnionOutside0To31();
        thereWere120();
        theFirstOfSeveralExceptions();
        Check.finish();
    }

    private static void itAnswersTheTelling() {
        TrenchMerge x = new TrenchMerge();
        Check.due("the first", 0, () -> x.tell(0, 0, 0, 0));
        Check.due("the same again is another one", 1, () -> x.tell(0, 0, 0, 0));
        Check.due("at another desk", 2, () -> x.tell(3, 7, 2, 4));
        Check.due("it is known", true, () -> x.knows(3, 2));
        Check.due("its sort", 2, () -> x.about(3, 2, 2));
    }

    private static void theLeastAndTheGreatestValuesAreTold() {
        int[] greatest = {999, 999, 31};
        for (int f = 0; f < 3; f++) {
            int field = f;
            TrenchMerge x = new TrenchMerge();
            Check.due("least of field " + field, 0, () -> x.tell(0, 0, field, 0));
            Check.due("it stands", 0, () -> x.at(0, 0, field, 0));
            Check.due("greatest of field " + field, 1, () -> x.tell(0, 1, field, greatest[field]));
            Check.due("it stands, too", greatest[field], () -> x.at(0, 1, field, 0));
        }
    }

    private static void theFirstAndTheLastDeskAndThing() {
        TrenchMerge x = new TrenchMerge();
        Check.due("desk 0, thing 0", 0, () -> x.tell(0, 0, 0, 7));
        Check.due("desk 0, thing 15", 1, () -> x.tell(0, 15, 0, 8));
        Check.due("desk 5, thing 0", 2, () -> x.tell(5, 0, 0, 9));
        Check.due("desk 5, thing 15", 3, () -> x.tell(5, 15, 0, 10));
        Check.due("desk 0, thing 0 stands", 7, () -> x.at(0, 0, 0, 0));
        Check.due("desk 0, thing 15 stands", 8, () -> x.at(0, 15, 0, 0));
        Check.due("desk 5, thing 0 stands", 9, () -> x.at(5, 0, 0, 0));
        Check.due("desk 5, thing 15 stands", 10, () -> x.at(5, 15, 0, 0));
    }

    private static void noSuchDesk() {
        Refused.outside("desk", Check.NO_SUCH, 0, 5, (x, desk) -> x.tell(desk, 0, 0, 1));
    }

    private static void noSuchThing() {
        Refused.outside("thing", Check.NO_SUCH, 0, 15, (x, thing) -> x.tell(0, thing, 0, 1));
    }

    /** Field 3 is there, but it is told by insert: here it is none of 0 .. 2. */
    private static void noSuchField() {
        Refused.outside("field", Check.NO_SUCH, 0, 2, (x, field) -> x.tell(0, 0, field, 1));
        Refused.due("field 4", Check.NO_SUCH, x -> x.tell(0, 0, 4, 1));
    }

    private static void valuesOutside0To999() {
        Refused.outside("v of field 0", Check.ARGUMENT, 0, 999, (x, v) -> x.tell(0, 0, 0, v));
        Refused.outside("v of field 1", Check.ARGUMENT, 0, 999, (x, v) -> x.tell(0, 0, 1, v));
    }

    private static void valuesOfTheUnionOutside0To31() {
        Refused.outside("v of field 2", Check.ARGUMENT, 0, 31, (x, v) -> x.tell(0, 0, 2, v));
        Refused.due("v 999 of field 2", Check.ARGUMENT, x -> x.tell(0, 0, 2, 999));
    }

    private static void thereWere120() {
        TrenchMerge x = new TrenchMerge();
        for (int i = 0; i < 120; i++) {
            int telling = i;
            Check.due("telling " + telling, telling, () -> x.tell(telling % 6, 0, telling % 3, 31));
        }
        for (int f = 0; f < 3; f++) {
            int field = f;
            Refused.dueWhenFull("field " + field, Check.STATE, y -> y.tell(5, 15, field, 0));
        }
    }

    private static void theFirstOfSeveralExceptions() {
        Refused.due("desk, value", Check.NO_SUCH, x -> x.tell(6, 0, 0, 1000));
        Refused.due("thing, value", Check.NO_SUCH, x -> x.tell(0, -1, 0, -1));
        Refused.due("field, value", Check.NO_SUCH, x -> x.tell(0, 0, 3, 1000));
        Refused.dueWhenFull("desk", Check.NO_SUCH, x -> x.tell(-1, 0, 0, 1));
        Refused.dueWhenFull("thing", Check.NO_SUCH, x -> x.tell(0, 16, 0, 1));
        Refused.dueWhenFull("field", Check.NO_SUCH, x -> x.tell(0, 0, -1, 1));
        Refused.dueWhenFull("value", Check.ARGUMENT, x -> x.tell(0, 0, 1, 1000));
        Refused.dueWhenFull("value of a union", Check.ARGUMENT, x -> x.tell(0, 0, 2, 32));
        Refused.dueWhenFull("desk, value", Check.NO_SUCH, x -> x.tell(6, 0, 2, 32));
    }
}
