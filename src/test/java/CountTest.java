/** Promise 17: tellings made, forgotten ones, and those that some desk knows and some does not. */
public final class CountTest {
    public static void main(String[] args) {
        nothingWasMade();
        eachSortIsCounted();
        refusedCallsAreNotCounted();
        forgottenOnesAreCounted();
        knownByOneDesk();
        knownByFiveDesks();
        forgottenOnesAreNotUnshared();
        all120();
        whatIsNoneOfThese();
        Check.finish();
    }

    private static void due(String what, TrenchMerge x, int made, int forgotten, int unshared) {
        Check.due(what + ": made", made, () -> x.count(0));
        Check.due(what + ": forgotten", forgotten, () -> x.count(1));
        Check.due(what + ": unshared", unshared, () -> x.count(2));
    }

    private static void nothingWasMade() {
        TrenchMerge x = new TrenchMerge();
        due("new", x, 0, 0, 0);
        x.number(0);
        x.join(0, 1);
        x.compact();
        due("no telling", x, 0, 0, 0);
    }

    private static void eachSortIsCounted() {
        TrenchMerge x = new TrenchMerge();
        x.tell(0, 0, 0, 1);
        due("tell", x, 1, 0, 1);
        x.insert(0, 0, TrenchMerge.NONE, 1);
        due("insert", x, 2, 0, 2);
        x.remove(0, 1);
        due("remove", x, 3, 0, 3);
        x.relate(0, 1, 2);
        due("relate", x, 4, 0, 4);
        x.drop(0, 3);
        due("drop", x, 5, 0, 5);
        States.spread(x);
        due("all know them", x, 5, 0, 0);
    }

    private static void refusedCallsAreNotCounted() {
        TrenchMerge x = new TrenchMerge();
        Check.due("refused", Check.ARGUMENT, () -> x.tell(0, 0, 0, 1000));
        Check.due("refused", Check.NO_SUCH, () -> x.relate(6, 1, 2));
        due("refused", x, 0, 0, 0);
    }

    private static void forgottenOnesAreCounted() {
        TrenchMerge x = new TrenchMerge();
        x.tell(0, 0, 0, 1);
        x.tell(0, 0, 0, 2);
        x.tell(0, 0, 0, 3);
        States.spread(x);
        due("before", x, 3, 0, 0);
        x.compact();
        due("forgotten", x, 3, 2, 0);
        x.compact();
        due("nothing more", x, 3, 2, 0);
    }

    private static void knownByOneDesk() {
        TrenchMerge x = new TrenchMerge();
        for (int desk = 0; desk < 6; desk++) {
            x.tell(desk, 0, 1, 1);
        }
        due("one each", x, 6, 0, 6);
    }

    private static void knownByFiveDesks() {
        for (int without = 0; without < 6; without++) {
            TrenchMerge x = new TrenchMerge();
            int at = (without + 1) % 6;
            x.tell(at, 0, 1, 1);
            for (int desk = 0; desk < 6; desk++) {
                if (desk != without) {
                    x.join(desk, at);
                }
            }
            due("all but " + without, x, 1, 0, 1);
            x.join(without, at);
            due("all", x, 1, 0, 0);
        }
    }

    private static void forgottenOnesAreNotUnshared() {
        TrenchMerge x = new TrenchMerge();
        x.tell(0, 0, 0, 1);
        x.tell(0, 0, 0, 2);
        States.spread(x);
        x.compact();
        x.relate(5, 1, 2);
        due("one unshared", x, 3, 1, 1);
    }

    private static void all120() {
        TrenchMerge x = new TrenchMerge();
        States.fill(x, 0, 120);
        due("at one desk", x, 120, 0, 120);
        Check.due("no more", Check.STATE, () -> x.tell(0, 0, 0, 1));
        due("behind a refused one", x, 120, 0, 120);
        States.spread(x);
        due("at all desks", x, 120, 0, 0);
    }

    private static void whatIsNoneOfThese() {
        Refused.outside("what", Check.ARGUMENT, 0, 2, (x, what) -> x.count(what));
        TrenchMerge fresh = new TrenchMerge();
        Check.due("a new object", Check.ARGUMENT, () -> fresh.count(3));
        Check.due("a new object", Check.ARGUMENT, () -> fresh.count(-1));
    }
}
