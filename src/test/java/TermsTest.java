/** The terms that all promises use: desks, tellings, stamps and ranks, things and their fields. */
public final class TermsTest {
    private static final int NONE = TrenchMerge.NONE;

    public static void main(String[] args) {
        theFirstAndTheLastDeskStandApart();
        tellingsAreNumberedFrom0();
        refusedCallsTakeNoNumberAndNoStamp();
        eachSortCanBeTheLastTelling();
        aTellingIsKnownAtOnceAtItsDeskAlone();
        theFirstStampIs1AtEachDesk();
        aStampIsOneMoreThanTheGreatestKnown();
        aLesserStampThatIsJoinedLowersNothing();
        eachSortRaisesTheStamp();
        noOtherCallRaisesTheStamp();
        theGreatestStampIs120();
        forgettingLowersNoStamp();
        aHigherStampIsLaterThanAHigherDesk();
        ofEqualStampsTheHigherDeskIsLater();
        theFirstAndTheLastThingStandApart();
        fieldsOfOneThingStandApart();
        equalKnowledgeGivesEqualAnswersInAnyOrder();
        the512thCallAnswers();
        Check.finish();
    }

    private static void theFirstAndTheLastDeskStandApart() {
        TrenchMerge x = new TrenchMerge();
        x.tell(0, 0, 0, 10);
        x.tell(5, 0, 0, 15);
        Check.due("desk 0", 10, () -> x.at(0, 0, 0, 0));
        Check.due("desk 5", 15, () -> x.at(5, 0, 0, 0));
        for (int d = 1; d < 5; d++) {
            int desk = d;
            Check.due("desk " + desk, NONE, () -> x.at(desk, 0, 0, 0));
        }
    }

    private static void tellingsAreNumberedFrom0() {
        TrenchMerge x = new TrenchMerge();
        Check.due("tell", 0, () -> x.tell(0, 0, 0, 1));
        Check.due("insert", 1, () -> x.insert(1, 0, NONE, 1));
        Check.due("remove", 2, () -> x.remove(1, 1));
        Check.due("relate", 3, () -> x.relate(5, 0, 1));
        Check.due("drop", 4, () -> x.drop(5, 3));
    }

    private static void refusedCallsTakeNoNumberAndNoStamp() {
        TrenchMerge x = new TrenchMerge();
        Check.due("refused", Check.ARGUMENT, () -> x.tell(0, 0, 0, 1000));
        Check.due("refused", Check.ARGUMENT, () -> x.insert(0, 0, NONE, 1000));
        Check.due("refused", Check.NO_SUCH, () -> x.remove(0, 0));
        Check.due("refused", Check.ARGUMENT, () -> x.relate(0, 1, 1));
        Check.due("refused", Check.NO_SUCH, () -> x.drop(0, 0));
        Check.due("none was made", 0, () -> x.count(0));
        Check.due("the first", 0, () -> x.tell(0, 0, 0, 1));
        Check.due("its stamp", 1, () -> x.about(0, 0, 0));
    }

    /** Desk 3 knows a place, a relation and 117 tellings more: one is left. */
    private static TrenchMerge allButOne() {
        TrenchMerge x = new TrenchMerge();
        x.insert(3, 0, NONE, 1);
        x.relate(3, 0, 1);
        States.fill(x, 3, 117);
        return x;
    }

    private static void lastTelling(String what, Refused.Call call) {
        TrenchMerge x = allButOne();
        Check.due("the last but one", 119, () -> x.count(0));
        Check.due(what + " as the last one", 119, () -> call.make(x));
        Check.due("tell then", Check.STATE, () -> x.tell(3, 0, 0, 1));
        Check.due("insert then", Check.STATE, () -> x.insert(3, 0, NONE, 1));
        Check.due("remove then", Check.STATE, () -> x.remove(3, 0));
        Check.due("relate then", Check.STATE, () -> x.relate(3, 1, 2));
        Check.due("drop then", Check.STATE, () -> x.drop(3, 1));
        Check.due("at another desk, too", Check.STATE, () -> x.tell(0, 0, 0, 1));
        Check.due("made", 120, () -> x.count(0));
    }

    private static void eachSortCanBeTheLastTelling() {
        lastTelling("tell", x -> x.tell(3, 0, 0, 1));
        lastTelling("tell at another desk", x -> x.tell(0, 0, 0, 1));
        lastTelling("insert", x -> x.insert(3, 0, 0, 1));
        lastTelling("remove", x -> x.remove(3, 0));
        lastTelling("relate", x -> x.relate(3, 1, 2));
        lastTelling("drop", x -> x.drop(3, 1));
    }

    private static void aTellingIsKnownAtOnceAtItsDeskAlone() {
        for (int d = 0; d < 6; d++) {
            int at = d;
            TrenchMerge x = new TrenchMerge();
            x.tell(at, 0, 0, 1);
            for (int other = 0; other < 6; other++) {
                int desk = other;
                Check.due("known at " + desk, desk == at, () -> x.knows(desk, 0));
            }
        }
    }

    private static void theFirstStampIs1AtEachDesk() {
        TrenchMerge x = new TrenchMerge();
        for (int d = 0; d < 6; d++) {
            int desk = d;
            x.tell(desk, 0, 0, 1);
            Check.due("first stamp of desk " + desk, 1, () -> x.about(desk, desk, 0));
        }
    }

    private static void aStampIsOneMoreThanTheGreatestKnown() {
        TrenchMerge x = new TrenchMerge();
        x.tell(0, 0, 0, 1);
        x.tell(0, 0, 0, 2);
        x.tell(1, 0, 0, 3);
        Check.due("the second at its desk", 2, () -> x.about(0, 1, 0));
        Check.due("what is not known does not count", 1, () -> x.about(1, 2, 0));
        x.join(1, 0);
        x.tell(1, 0, 0, 4);
        Check.due("behind a join", 3, () -> x.about(1, 3, 0));
        x.tell(0, 0, 0, 5);
        Check.due("the joined desk learnt nothing", 3, () -> x.about(0, 4, 0));
    }

    private static void aLesserStampThatIsJoinedLowersNothing() {
        TrenchMerge x = new TrenchMerge();
        x.tell(1, 0, 0, 1);
        x.tell(1, 0, 0, 2);
        x.tell(1, 0, 0, 3);
        x.tell(5, 0, 0, 4);
        x.join(1, 5);
        x.tell(1, 0, 0, 5);
        Check.due("stamp", 4, () -> x.about(1, 4, 0));
    }

    private static void eachSortRaisesTheStamp() {
        TrenchMerge x = new TrenchMerge();
        x.tell(0, 0, 0, 1);
        x.tell(0, 0, 1, 1);
        x.tell(0, 0, 2, 1);
        x.insert(0, 0, NONE, 1);
        x.remove(0, 3);
        x.relate(0, 1, 2);
        x.drop(0, 5);
        x.tell(0, 0, 0, 1);
        for (int t = 0; t < 8; t++) {
            int telling = t;
            Check.due("stamp of " + telling, telling + 1, () -> x.about(0, telling, 0));
        }
    }

    private static void noOtherCallRaisesTheStamp() {
        TrenchMerge x = new TrenchMerge();
        x.tell(0, 0, 0, 1);
        x.number(0);
        x.join(0, 0);
        x.join(0, 1);
        x.join(1, 0);
        x.compact();
        x.open(0, 0);
        x.tell(0, 0, 0, 2);
        Check.due("the second stamp", 2, () -> x.about(0, 1, 0));
    }

    private static void theGreatestStampIs120() {
        TrenchMerge x = new TrenchMerge();
        States.fill(x, 2, 119);
        x.join(4, 2);
        x.tell(4, 0, 0, 1);
        Check.due("stamp", 120, () -> x.about(4, 119, 0));
        Check.due("the one before", 119, () -> x.about(4, 118, 0));
    }

    private static void forgettingLowersNoStamp() {
        TrenchMerge x = new TrenchMerge();
        x.tell(4, 0, 0, 1);
        x.tell(2, 0, 0, 2);
        States.joinAll(x);
        Check.due("one is forgotten", 1, () -> x.compact());
        x.tell(2, 0, 0, 3);
        Check.due("stamp", 2, () -> x.about(2, 2, 0));
    }

    private static void aHigherStampIsLaterThanAHigherDesk() {
        TrenchMerge x = new TrenchMerge();
        x.tell(0, 0, 0, 1);
        x.tell(0, 0, 0, 2);
        x.tell(5, 0, 0, 3);
        x.join(0, 5);
        x.join(5, 0);
        Check.due("the latest", 2, () -> x.at(0, 0, 0, 0));
        Check.due("the latest, at the other desk", 2, () -> x.at(5, 0, 0, 0));
    }

    private static void ofEqualStampsTheHigherDeskIsLater() {
        TrenchMerge x = new TrenchMerge();
        for (int desk = 5; desk >= 0; desk--) {
            x.tell(desk, 0, 0, 10 + desk);
        }
        for (int d = 0; d < 5; d++) {
            int desk = d;
            x.join(desk, desk + 1);
            Check.due("the latest at " + desk, 11 + desk, () -> x.at(desk, 0, 0, 0));
        }
    }

    private static void theFirstAndTheLastThingStandApart() {
        TrenchMerge x = new TrenchMerge();
        for (int field = 0; field < 3; field++) {
            x.tell(0, 0, field, 10 + field);
            x.tell(0, 15, field, 20 + field);
        }
        x.insert(0, 0, NONE, 13);
        x.insert(0, 15, NONE, 23);
        for (int f = 0; f < 4; f++) {
            int field = f;
            Check.due("thing 0", 10 + field, () -> x.at(0, 0, field, 0));
            Check.due("thing 15", 20 + field, () -> x.at(0, 15, field, 0));
            Check.due("thing 1", field == 1 ? 0 : NONE, () -> x.at(0, 1, field, 0));
            Check.due("thing 14", field == 1 ? 0 : NONE, () -> x.at(0, 14, field, 0));
        }
    }

    private static void fieldsOfOneThingStandApart() {
        for (int f = 0; f < 4; f++) {
            int told = f;
            TrenchMerge x = new TrenchMerge();
            int first = told == 3 ? x.insert(0, 7, NONE, 9) : x.tell(0, 7, told, 9);
            Check.due("the first", 0, () -> first);
            for (int g = 0; g < 4; g++) {
                int field = g;
                int want = field == told ? 9 : field == 1 ? 0 : NONE;
                Check.due("told " + told + ", asked " + field, want, () -> x.at(0, 7, field, 0));
            }
        }
    }

    private static TrenchMerge toldApart() {
        TrenchMerge x = new TrenchMerge();
        for (int desk = 0; desk < 3; desk++) {
            x.tell(desk, 0, 0, 10 + desk);
            x.tell(desk, 0, 1, 20 + desk);
            x.tell(desk, 0, 2, 31 - desk);
            x.insert(desk, 0, NONE, 30 + desk);
            x.relate(desk, desk, (desk + 1) % 3);
        }
        return x;
    }

    private static void equalKnowledgeGivesEqualAnswersInAnyOrder() {
        int[][] orders = {{0, 1, 2}, {0, 2, 1}, {1, 0, 2}, {1, 2, 0}, {2, 0, 1}, {2, 1, 0},
            {2, 2, 0, 1, 0, 2}};
        for (int[] order : orders) {
            TrenchMerge x = toldApart();
            for (int desk : order) {
                x.join(5, desk);
            }
            Check.due("latest", 12, () -> x.at(5, 0, 0, 0));
            Check.due("sum", 63, () -> x.at(5, 0, 1, 0));
            Check.due("least of the union", 29, () -> x.at(5, 0, 2, 0));
            Rows.due("row", x, 5, 0, "32 31 30");
            Check.due("open", 14, () -> x.open(5, 0));
            Check.due("order", 1, () -> x.order(5, 0, 2));
        }
    }

    private static void the512thCallAnswers() {
        TrenchMerge x = new TrenchMerge();
        for (int call = 0; call < 510; call++) {
            x.join(call % 6, call / 6 % 6);
        }
        Check.due("the 511th call", 0, () -> x.tell(5, 0, 0, 1));
        Check.due("the 512th call", 1, () -> x.join(0, 5));
    }
}
