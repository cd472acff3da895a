/** Promise 11: whether a context is over another one. */
public final class OrderTest {
    public static void main(String[] args) {
        nothingIsKnown();
        oneIsOverTheOther();
        aContextIsNotOverItself();
        theLongestChain();
        theFirstAndTheLastContext();
        asTheDeskKnowsIt();
        noSuchDesk();
        noSuchContext();
        Check.finish();
    }

    private static void nothingIsKnown() {
        TrenchMerge x = new TrenchMerge();
        for (int i = 0; i < 16; i++) {
            int context = i;
            Check.due("0 and " + context, 0, () -> x.order(5, 0, context));
            Check.due(context + " and 15", 0, () -> x.order(0, context, 15));
        }
    }

    private static void oneIsOverTheOther() {
        TrenchMerge x = new TrenchMerge();
        x.relate(0, 3, 4);
        Check.due("a over b", 1, () -> x.order(0, 3, 4));
        Check.due("b over a", -1, () -> x.order(0, 4, 3));
        Check.due("neither", 0, () -> x.order(0, 3, 5));
        Check.due("neither", 0, () -> x.order(0, 5, 4));
    }

    private static void aContextIsNotOverItself() {
        TrenchMerge x = new TrenchMerge();
        x.relate(0, 0, 15);
        x.relate(0, 15, 0);
        for (int c = 0; c < 16; c++) {
            int context = c;
            Check.due("context " + context, 0, () -> x.order(0, context, context));
        }
    }

    private static void theLongestChain() {
        TrenchMerge x = new TrenchMerge();
        for (int context = 14; context >= 0; context--) {
            x.relate(0, context, context + 1);
        }
        for (int i = 0; i < 16; i++) {
            int context = i;
            Check.due("0 and " + context, context == 0 ? 0 : 1, () -> x.order(0, 0, context));
            Check.due("15 and " + context, context == 15 ? 0 : -1, () -> x.order(0, 15, context));
        }
        x.drop(0, 7);
        Check.due("a gap", 0, () -> x.order(0, 0, 15));
        Check.due("before the gap", 1, () -> x.order(0, 0, 7));
        Check.due("behind the gap", 1, () -> x.order(0, 8, 15));
    }

    private static void theFirstAndTheLastContext() {
        TrenchMerge x = new TrenchMerge();
        x.relate(0, 15, 0);
        Check.due("15 over 0", 1, () -> x.order(0, 15, 0));
        Check.due("0 under 15", -1, () -> x.order(0, 0, 15));
        Check.due("1 stands apart", 0, () -> x.order(0, 15, 1));
        Check.due("14 stands apart", 0, () -> x.order(0, 14, 0));
    }

    private static void asTheDeskKnowsIt() {
        TrenchMerge x = new TrenchMerge();
        x.relate(0, 1, 2);
        x.relate(5, 2, 3);
        Check.due("desk 0", 0, () -> x.order(0, 1, 3));
        Check.due("desk 5", 0, () -> x.order(5, 1, 3));
        x.join(3, 0);
        x.join(3, 5);
        Check.due("desk 3", 1, () -> x.order(3, 1, 3));
        Check.due("desk 4", 0, () -> x.order(4, 1, 3));
        Check.due("desk 0 again", 0, () -> x.order(0, 1, 3));
    }

    private static void noSuchDesk() {
        Refused.outside("desk", Check.NO_SUCH, 0, 5, (x, desk) -> x.order(desk, 1, 2));
    }

    private static void noSuchContext() {
        Refused.outside("a", Check.NO_SUCH, 0, 15, (x, a) -> x.order(0, a, 2));
        Refused.outside("b", Check.NO_SUCH, 0, 15, (x, b) -> x.order(0, 1, b));
        Refused.outside("both", Check.NO_SUCH, 0, 15, (x, c) -> x.order(0, c, c));
    }
}
