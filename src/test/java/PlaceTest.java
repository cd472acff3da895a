/** Promise 10: the telling of the k-th place of a row. */
public final class PlaceTest {
    private static final int NONE = TrenchMerge.NONE;

    public static void main(String[] args) {
        itAnswersTheTellingAndNotTheValue();
        theRowsEnd();
        noPlaceAtAll();
        removedPlacesAreNotCounted();
        theLastTellingAsAPlace();
        noSuchDesk();
        noSuchThing();
        kBelow0();
        Check.finish();
    }

    private static void itAnswersTheTellingAndNotTheValue() {
        TrenchMerge x = new TrenchMerge();
        x.insert(0, 5, NONE, 10);
        x.insert(0, 5, NONE, 20);
        x.insert(0, 5, 0, 30);
        Check.due("first", 1, () -> x.place(0, 5, 0));
        Check.due("second", 0, () -> x.place(0, 5, 1));
        Check.due("third", 2, () -> x.place(0, 5, 2));
        Check.due("another desk", NONE, () -> x.place(1, 5, 0));
        Check.due("another thing", NONE, () -> x.place(0, 4, 0));
    }

    private static void behindTheEnd(TrenchMerge x, int end) {
        int[] ks = {end, end + 1, 120, 65536, Integer.MAX_VALUE};
        for (int k : ks) {
            Check.due("k " + k + " of " + end, NONE, () -> x.place(0, 0, k));
        }
    }

    private static void theRowsEnd() {
        TrenchMerge x = new TrenchMerge();
        x.insert(0, 0, NONE, 1);
        behindTheEnd(x, 1);
        x.insert(0, 0, 0, 1);
        Check.due("the last", 1, () -> x.place(0, 0, 1));
        behindTheEnd(x, 2);
    }

    private static void noPlaceAtAll() {
        TrenchMerge x = new TrenchMerge();
        behindTheEnd(x, 0);
        x.tell(0, 0, 0, 1);
        x.insert(1, 0, NONE, 1);
        x.insert(0, 1, NONE, 1);
        behindTheEnd(x, 0);
    }

    private static void removedPlacesAreNotCounted() {
        TrenchMerge x = new TrenchMerge();
        x.insert(0, 0, NONE, 10);
        x.insert(0, 0, 0, 20);
        x.remove(0, 0);
        Check.due("the next one", 1, () -> x.place(0, 0, 0));
        behindTheEnd(x, 1);
        x.remove(0, 1);
        behindTheEnd(x, 0);
    }

    private static void theLastTellingAsAPlace() {
        TrenchMerge x = new TrenchMerge();
        States.fill(x, 5, 119);
        x.insert(5, 15, NONE, 1);
        Check.due("the last telling", 119, () -> x.place(5, 15, 0));
        Check.due("no more", NONE, () -> x.place(5, 15, 1));
    }

    private static void noSuchDesk() {
        Refused.outside("desk", Check.NO_SUCH, 0, 5, (x, desk) -> x.place(desk, 0, 0));
    }

    private static void noSuchThing() {
        Refused.outside("thing", Check.NO_SUCH, 0, 15, (x, thing) -> x.place(0, thing, 0));
    }

    private static void kBelow0() {
        Refused.below0("k", Check.NO_SUCH, (x, k) -> x.place(0, 0, k));
        Refused.below0("an empty row's k", Check.NO_SUCH, (x, k) -> x.place(0, 9, k));
    }
}
