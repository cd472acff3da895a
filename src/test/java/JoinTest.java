/** Promise 7: a desk joins another one. */
public final class JoinTest {
    public static void main(String[] args) {
        itAnswersHowManyWereNotKnown();
        nothingToJoin();
        aDeskJoinsItself();
        joinedAgain();
        theOtherDeskLearnsNothing();
        whatTheOtherOneJoinedIsJoinedToo();
        eachDeskJoinsEachOtherOne();
        all120();
        forgottenOnesDoNotCome();
        joinsGoOnWhenAllIsFull();
        noSuchDesk();
        Check.finish();
    }

    private static void itAnswersHowManyWereNotKnown() {
        TrenchMerge x = new TrenchMerge();
        x.tell(0, 0, 1, 1);
        x.tell(0, 0, 1, 2);
        x.tell(1, 0, 1, 4);
        Check.due("join", 2, () -> x.join(1, 0));
        Check.due("the sum of all", 7, () -> x.at(1, 0, 1, 0));
        x.relate(0, 1, 2);
        x.insert(0, 0, TrenchMerge.NONE, 1);
        Check.due("those that are new alone", 2, () -> x.join(1, 0));
    }

    private static void nothingToJoin() {
        TrenchMerge x = new TrenchMerge();
        Check.due("neither knows any", 0, () -> x.join(0, 5));
        x.tell(0, 0, 0, 1);
        Check.due("the other one knows none", 0, () -> x.join(0, 5));
        Check.due("its own is still known", true, () -> x.knows(0, 0));
    }

    private static void aDeskJoinsItself() {
        TrenchMerge x = States.ordinary();
        for (int d = 0; d < 6; d++) {
            int desk = d;
            Check.due("desk " + desk, 0, () -> x.join(desk, desk));
        }
    }

    private static void joinedAgain() {
        TrenchMerge x = new TrenchMerge();
        x.tell(0, 0, 1, 5);
        x.insert(0, 0, TrenchMerge.NONE, 6);
        x.join(1, 0);
        Check.due("again", 0, () -> x.join(1, 0));
        Check.due("no value counts twice", 5, () -> x.at(1, 0, 1, 0));
        Rows.due("no place stands twice", x, 1, 0, "6");
    }

    private static void theOtherDeskLearnsNothing() {
        TrenchMerge x = new TrenchMerge();
        x.tell(0, 0, 1, 5);
        x.tell(1, 0, 1, 6);
        x.join(0, 1);
        Check.due("desk 1", false, () -> x.knows(1, 0));
        Check.due("its sum", 6, () -> x.at(1, 0, 1, 0));
    }

    private static void whatTheOtherOneJoinedIsJoinedToo() {
        TrenchMerge x = new TrenchMerge();
        x.tell(0, 0, 1, 1);
        for (int d = 1; d < 6; d++) {
            int desk = d;
            x.tell(desk, 0, 1, 1);
            Check.due("desk " + desk, desk, () -> x.join(desk, desk - 1));
        }
        Check.due("round about", 5, () -> x.join(0, 5));
        Check.due("all", true, () -> x.equal(0, 5));
    }

    private static void eachDeskJoinsEachOtherOne() {
        for (int d = 0; d < 6; d++) {
            for (int o = 0; o < 6; o++) {
                int desk = d;
                int other = o;
                TrenchMerge x = new TrenchMerge();
                x.tell(other, 0, 0, 9);
                Check.due(desk + " joins " + other, desk == other ? 0 : 1, () -> x.join(desk, other));
                for (int t = 0; t < 6; t++) {
                    int third = t;
                    Check.due("known at " + third, third == desk || third == other,
                            () -> x.knows(third, 0));
                }
            }
        }
    }

    private static void all120() {
        TrenchMerge x = new TrenchMerge();
        States.fill(x, 0, 120);
        Check.due("all", 120, () -> x.join(5, 0));
        Check.due("all were joined", true, () -> x.equal(5, 0));
        Check.due("the first", true, () -> x.knows(5, 0));
        Check.due("the last", true, () -> x.knows(5, 119));
    }

    private static void forgottenOnesDoNotCome() {
        TrenchMerge x = new TrenchMerge();
        x.tell(0, 0, 0, 1);
        x.tell(0, 0, 0, 2);
        States.spread(x);
        x.compact();
        Check.due("nothing new", 0, () -> x.join(1, 0));
        Check.due("it is known nowhere", false, () -> x.knows(1, 0));
        x.tell(0, 0, 0, 3);
        Check.due("the new one alone", 1, () -> x.join(1, 0));
    }

    private static void joinsGoOnWhenAllIsFull() {
        TrenchMerge x = new TrenchMerge();
        States.fill(x, 0, 60);
        States.fill(x, 1, 60);
        Check.due("no more is told", Check.STATE, () -> x.tell(0, 0, 0, 1));
        Check.due("join", 60, () -> x.join(0, 1));
        Check.due("and back", 60, () -> x.join(1, 0));
    }

    private static void noSuchDesk() {
        Refused.outside("desk", Check.NO_SUCH, 0, 5, (x, desk) -> x.join(desk, 0));
        Refused.outside("other", Check.NO_SUCH, 0, 5, (x, other) -> x.join(0, other));
        Refused.outside("both", Check.NO_SUCH, 0, 5, (x, desk) -> x.join(desk, desk));
    }
}
