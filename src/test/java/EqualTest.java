/** Promise 14: whether two desks know the same tellings. */
public final class EqualTest {
    public static void main(String[] args) {
        desksThatKnowNothing();
        aDeskAndItself();
        asManyButOthers();
        oneMoreOnEitherSide();
        theLastTellingOf120();
        forgottenOnesDoNotCount();
        noSuchDesk();
        Check.finish();
    }

    private static void desksThatKnowNothing() {
        TrenchMerge x = new TrenchMerge();
        for (int o = 0; o < 6; o++) {
            int other = o;
            Check.due("0 and " + other, true, () -> x.equal(0, other));
            Check.due(other + " and 5", true, () -> x.equal(other, 5));
        }
    }

    private static void aDeskAndItself() {
        TrenchMerge x = States.full();
        for (int d = 0; d < 6; d++) {
            int desk = d;
            Check.due("desk " + desk, true, () -> x.equal(desk, desk));
        }
    }

    private static void asManyButOthers() {
        TrenchMerge x = new TrenchMerge();
        x.tell(0, 0, 1, 7);
        x.tell(5, 0, 1, 7);
        Check.due("the same value", false, () -> x.equal(0, 5));
        x.join(0, 5);
        x.join(5, 0);
        Check.due("the same tellings", true, () -> x.equal(0, 5));
    }

    private static void oneMoreOnEitherSide() {
        TrenchMerge x = new TrenchMerge();
        x.tell(1, 0, 0, 1);
        Check.due("more", false, () -> x.equal(1, 0));
        Check.due("fewer", false, () -> x.equal(0, 1));
        x.join(0, 1);
        Check.due("as many", true, () -> x.equal(0, 1));
        x.remove(0, x.insert(0, 0, TrenchMerge.NONE, 1));
        Check.due("the same answers, but not the same tellings", false, () -> x.equal(0, 1));
    }

    private static void theLastTellingOf120() {
        TrenchMerge x = new TrenchMerge();
        States.fill(x, 0, 119);
        x.join(5, 0);
        Check.due("119", true, () -> x.equal(0, 5));
        x.tell(0, 0, 0, 1);
        Check.due("one of 120", false, () -> x.equal(0, 5));
        x.join(5, 0);
        Check.due("all 120", true, () -> x.equal(5, 0));
    }

    private static void forgottenOnesDoNotCount() {
        TrenchMerge x = new TrenchMerge();
        x.tell(0, 0, 0, 1);
        x.tell(0, 0, 0, 2);
        States.spread(x);
        x.compact();
        Check.due("all know the same", true, () -> x.equal(0, 5));
        x.tell(5, 0, 0, 3);
        Check.due("one more", false, () -> x.equal(0, 5));
    }

    private static void noSuchDesk() {
        Refused.outside("one", Check.NO_SUCH, 0, 5, (x, one) -> x.equal(one, 0));
        Refused.outside("other", Check.NO_SUCH, 0, 5, (x, other) -> x.equal(0, other));
        Refused.outside("both", Check.NO_SUCH, 0, 5, (x, desk) -> x.equal(desk, desk));
    }
}
