/** Promise 15: tellings of field 0 that all know to be outdone are forgotten by all. */
public final class CompactTest {
    private static final int NONE = TrenchMerge.NONE;

    public static void main(String[] args) {
        nothingToForget();
        oneTellingAlone();
        notBeforeAllKnow();
        fiveDesksAreNotAll();
        theOutdoingOneMustBeKnownByAll();
        itMustBeOneAndTheSame();
        allButTheHighestRankAreForgotten();
        ofEqualStampsTheHigherDeskStays();
        whatNotAllKnowStays();
        otherFieldsAreNotForgotten();
        otherSortsDoNotOutdo();
        thingsStandApart();
        compactedAgain();
        forgottenOnesCannotBeKnown();
        answersStay();
        numbersOfForgottenOnesAreNotGivenAgain();
        all120();
        Check.finish();
    }

    private static void nothingToForget() {
        TrenchMerge x = new TrenchMerge();
        Check.due("a new object", 0, () -> x.compact());
        Check.due("again", 0, () -> x.compact());
        Check.due("none forgotten", 0, () -> x.count(1));
    }

    private static void oneTellingAlone() {
        TrenchMerge x = new TrenchMerge();
        x.tell(0, 0, 0, 5);
        States.spread(x);
        Check.due("it is not outdone", 0, () -> x.compact());
        Check.due("it is known", true, () -> x.knows(5, 0));
    }

    private static void notBeforeAllKnow() {
        TrenchMerge x = new TrenchMerge();
        x.tell(0, 0, 0, 5);
        x.tell(0, 0, 0, 6);
        Check.due("known by one", 0, () -> x.compact());
        States.spread(x);
        Check.due("known by all", 1, () -> x.compact());
    }

    private static void fiveDesksAreNotAll() {
        for (int without = 0; without < 6; without++) {
            TrenchMerge x = new TrenchMerge();
            int at = (without + 1) % 6;
            x.tell(at, 0, 0, 5);
            x.tell(at, 0, 0, 6);
            for (int desk = 0; desk < 6; desk++) {
                if (desk != without) {
                    x.join(desk, at);
                }
            }
            Check.due("all but " + without, 0, () -> x.compact());
            x.join(without, at);
            Check.due("all", 1, () -> x.compact());
        }
    }

    private static void theOutdoingOneMustBeKnownByAll() {
        TrenchMerge x = new TrenchMerge();
        x.tell(0, 0, 0, 5);
        States.spread(x);
        x.tell(0, 0, 0, 6);
        for (int desk = 1; desk < 5; desk++) {
            x.join(desk, 0);
        }
        Check.due("desk 5 does not know it", 0, () -> x.compact());
        Check.due("so the old one stays", 5, () -> x.at(5, 0, 0, 0));
        x.join(5, 0);
        Check.due("now it does", 1, () -> x.compact());
    }

    private static void itMustBeOneAndTheSame() {
        TrenchMerge x = new TrenchMerge();
        x.tell(0, 0, 0, 5);
        States.spread(x);
        for (int desk = 0; desk < 6; desk++) {
            x.tell(desk, 0, 0, 10 + desk);
        }
        Check.due("each desk knows another one", 0, () -> x.compact());
        for (int desk = 1; desk < 6; desk++) {
            x.join(desk, 0);
        }
        Check.due("all know one of them", 1, () -> x.compact());
        Check.due("not all know the others", true, () -> x.knows(5, 6));
        Check.due("the first is forgotten", false, () -> x.knows(5, 0));
    }

    private static void allButTheHighestRankAreForgotten() {
        TrenchMerge x = new TrenchMerge();
        for (int i = 0; i < 10; i++) {
            x.tell(0, 0, 0, i);
        }
        States.spread(x);
        Check.due("all but one", 9, () -> x.compact());
        for (int t = 0; t < 10; t++) {
            int telling = t;
            Check.due("telling " + telling, telling == 9, () -> x.knows(3, telling));
        }
    }

    private static void ofEqualStampsTheHigherDeskStays() {
        TrenchMerge x = new TrenchMerge();
        x.tell(3, 0, 0, 30);
        x.tell(1, 0, 0, 10);
        States.joinAll(x);
        Check.due("one", 1, () -> x.compact());
        Check.due("the higher desk's, though told first", true, () -> x.knows(0, 0));
        Check.due("the lower desk's", false, () -> x.knows(0, 1));
        Check.due("the latest", 30, () -> x.at(0, 0, 0, 0));
    }

    private static void whatNotAllKnowStays() {
        TrenchMerge x = new TrenchMerge();
        x.tell(1, 0, 0, 1);
        x.tell(0, 0, 0, 2);
        x.tell(0, 0, 0, 3);
        States.spread(x);
        Check.due("the one that all know", 1, () -> x.compact());
        Check.due("the other one", true, () -> x.knows(1, 0));
        Check.due("it is shared later", 1, () -> x.join(0, 1));
        States.spread(x);
        Check.due("and forgotten then", 1, () -> x.compact());
    }

    private static void otherFieldsAreNotForgotten() {
        TrenchMerge x = new TrenchMerge();
        for (int i = 0; i < 2; i++) {
            x.tell(0, 0, 1, 7);
            x.tell(0, 0, 2, 8);
            x.insert(0, 0, NONE, 9);
            x.relate(0, 1, 2);
        }
        x.remove(0, 2);
        x.remove(0, 2);
        x.drop(0, 3);
        x.drop(0, 3);
        States.spread(x);
        Check.due("none", 0, () -> x.compact());
        Check.due("the sum", 14, () -> x.at(5, 0, 1, 0));
    }

    private static void otherSortsDoNotOutdo() {
        TrenchMerge x = new TrenchMerge();
        x.tell(0, 0, 0, 5);
        x.tell(0, 0, 1, 6);
        x.tell(0, 0, 2, 7);
        x.insert(0, 0, NONE, 8);
        x.remove(0, 3);
        x.relate(0, 0, 1);
        x.drop(0, 5);
        States.spread(x);
        Check.due("none", 0, () -> x.compact());
        Check.due("the latest", 5, () -> x.at(5, 0, 0, 0));
    }

    private static void thingsStandApart() {
        TrenchMerge x = new TrenchMerge();
        x.tell(0, 0, 0, 5);
        x.tell(0, 15, 0, 6);
        States.spread(x);
        Check.due("one of each", 0, () -> x.compact());
        x.tell(0, 15, 0, 7);
        States.spread(x);
        Check.due("two of thing 15", 1, () -> x.compact());
        Check.due("thing 0", 5, () -> x.at(5, 0, 0, 0));
        Check.due("thing 15", 7, () -> x.at(5, 15, 0, 0));
    }

    private static void compactedAgain() {
        TrenchMerge x = new TrenchMerge();
        x.tell(0, 0, 0, 5);
        x.tell(0, 0, 0, 6);
        States.spread(x);
        Check.due("one", 1, () -> x.compact());
        Check.due("no more", 0, () -> x.compact());
        x.tell(2, 0, 0, 7);
        States.joinAll(x);
        Check.due("one more", 1, () -> x.compact());
        Check.due("two in all", 2, () -> x.count(1));
    }

    private static void forgottenOnesCannotBeKnown() {
        TrenchMerge x = new TrenchMerge();
        x.tell(0, 0, 0, 5);
        x.tell(0, 0, 0, 6);
        States.spread(x);
        x.compact();
        for (int d = 0; d < 6; d++) {
            int desk = d;
            Check.due("knows", false, () -> x.knows(desk, 0));
            Check.due("about", Check.NO_SUCH, () -> x.about(desk, 0, 0));
            Check.due("remove", Check.NO_SUCH, () -> x.remove(desk, 0));
            Check.due("drop", Check.NO_SUCH, () -> x.drop(desk, 0));
            Check.due("insert", Check.NO_SUCH, () -> x.insert(desk, 0, 0, 1));
            Check.due("join", 0, () -> x.join(desk, 5 - desk));
        }
    }

    private static void answersStay() {
        TrenchMerge x = States.ordinary();
        x.tell(0, 0, 0, 70);
        States.joinAll(x);
        Check.due("one is forgotten", 1, () -> x.compact());
        Check.due("latest", 70, () -> x.at(4, 0, 0, 0));
        Check.due("sum", 9, () -> x.at(4, 0, 1, 0));
        Check.due("union", 10, () -> x.at(4, 0, 2, 0));
        Rows.due("row", x, 4, 0, "7 12");
        Check.due("open", States.OPEN_RELATION, () -> x.open(4, 0));
        Check.due("order", 1, () -> x.order(4, 1, 2));
    }

    private static void numbersOfForgottenOnesAreNotGivenAgain() {
        TrenchMerge x = new TrenchMerge();
        x.tell(0, 0, 0, 5);
        x.tell(0, 0, 0, 6);
        States.spread(x);
        x.compact();
        Check.due("the next telling", 2, () -> x.tell(0, 0, 0, 7));
    }

    private static void all120() {
        TrenchMerge x = new TrenchMerge();
        for (int i = 0; i < 120; i++) {
            x.tell(0, 0, 0, i);
        }
        States.spread(x);
        Check.due("all but one", 119, () -> x.compact());
        Check.due("the last stays", 119, () -> x.at(5, 0, 0, 0));
        Check.due("forgotten ones were made", Check.STATE, () -> x.tell(0, 0, 0, 1));
        Check.due("made", 120, () -> x.count(0));
        Check.due("forgotten", 119, () -> x.count(1));
    }
}
