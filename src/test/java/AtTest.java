/** Promise 9: the k-th value of a field as a desk knows it. */
public final class AtTest {
    private static final int NONE = TrenchMerge.NONE;

    public static void main(String[] args) {
        theLatestIsTheOneWithTheHighestRank();
        theLatestHasOneValueAlone();
        noLatest();
        theSumOfAllValues();
        theGreatestSum();
        theSumIs0WithoutTellings();
        theSumHasOneValueAlone();
        theUnionHasEachValueOnceBySize();
        theUnionOfAllValues();
        theUnionsEnd();
        theRowsValues();
        theRowsEnd();
        eachDeskAnswersByWhatItKnows();
        noSuchDesk();
        noSuchThing();
        noSuchField();
        kBelow0();
        Check.finish();
    }

    private static void behindTheEnd(String what, TrenchMerge x, int field, int end) {
        int[] ks = {end, end + 1, 32, 120, 65536, Integer.MAX_VALUE};
        for (int k : ks) {
            Check.due(what + ", k " + k, NONE, () -> x.at(0, 0, field, k));
        }
    }

    private static void theLatestIsTheOneWithTheHighestRank() {
        TrenchMerge x = new TrenchMerge();
        x.tell(0, 2, 0, 50);
        x.tell(0, 2, 0, 60);
        x.tell(4, 2, 0, 70);
        x.join(0, 4);
        Check.due("the higher stamp", 60, () -> x.at(0, 2, 0, 0));
        x.tell(3, 2, 0, 80);
        x.join(4, 3);
        Check.due("equal stamps: the higher desk", 70, () -> x.at(4, 2, 0, 0));
        x.tell(0, 2, 0, 0);
        Check.due("a smaller value told later", 0, () -> x.at(0, 2, 0, 0));
    }

    private static void theLatestHasOneValueAlone() {
        TrenchMerge x = new TrenchMerge();
        x.tell(0, 0, 0, 0);
        x.tell(0, 0, 0, 999);
        Check.due("k 0", 999, () -> x.at(0, 0, 0, 0));
        behindTheEnd("latest", x, 0, 1);
    }

    private static void noLatest() {
        TrenchMerge x = new TrenchMerge();
        x.tell(1, 0, 0, 5);
        x.tell(0, 0, 1, 5);
        x.tell(0, 1, 0, 5);
        behindTheEnd("no latest", x, 0, 0);
    }

    private static void theSumOfAllValues() {
        TrenchMerge x = new TrenchMerge();
        x.tell(0, 0, 1, 7);
        x.tell(0, 0, 1, 7);
        x.tell(1, 0, 1, 100);
        x.tell(0, 1, 1, 3);
        Check.due("a value told twice counts twice", 14, () -> x.at(0, 0, 1, 0));
        x.join(0, 1);
        Check.due("all desks' values", 114, () -> x.at(0, 0, 1, 0));
        Check.due("another thing", 3, () -> x.at(0, 1, 1, 0));
    }

    private static void theGreatestSum() {
        TrenchMerge x = new TrenchMerge();
        for (int i = 0; i < 120; i++) {
            x.tell(0, 0, 1, 999);
        }
        Check.due("120 times 999", 119880, () -> x.at(0, 0, 1, 0));
        Check.due("another thing", 0, () -> x.at(0, 1, 1, 0));
    }

    private static void theSumIs0WithoutTellings() {
        TrenchMerge x = new TrenchMerge();
        Check.due("a new object", 0, () -> x.at(0, 0, 1, 0));
        x.tell(1, 0, 1, 5);
        x.tell(0, 1, 1, 5);
        x.tell(0, 0, 0, 5);
        Check.due("other desks, things and fields", 0, () -> x.at(0, 0, 1, 0));
        behindTheEnd("no sum", x, 1, 1);
        x.tell(0, 0, 1, 0);
        Check.due("a told 0", 0, () -> x.at(0, 0, 1, 0));
    }

    private static void theSumHasOneValueAlone() {
        TrenchMerge x = new TrenchMerge();
        x.tell(0, 0, 1, 4);
        x.tell(0, 0, 1, 5);
        Check.due("k 0", 9, () -> x.at(0, 0, 1, 0));
        behindTheEnd("sum", x, 1, 1);
    }

    private static void theUnionHasEachValueOnceBySize() {
        TrenchMerge x = new TrenchMerge();
        x.tell(0, 0, 2, 31);
        x.tell(0, 0, 2, 4);
        x.tell(1, 0, 2, 31);
        x.tell(1, 0, 2, 0);
        x.tell(1, 1, 2, 9);
        x.join(0, 1);
        Check.due("least", 0, () -> x.at(0, 0, 2, 0));
        Check.due("middle", 4, () -> x.at(0, 0, 2, 1));
        Check.due("greatest", 31, () -> x.at(0, 0, 2, 2));
        behindTheEnd("union", x, 2, 3);
        Check.due("the other desk", 31, () -> x.at(1, 0, 2, 1));
    }

    private static void theUnionOfAllValues() {
        TrenchMerge x = new TrenchMerge();
        for (int v = 31; v >= 0; v--) {
            x.tell(0, 0, 2, v);
        }
        for (int v = 0; v < 32; v++) {
            int k = v;
            Check.due("k " + k, k, () -> x.at(0, 0, 2, k));
        }
        behindTheEnd("all", x, 2, 32);
    }

    private static void theUnionsEnd() {
        TrenchMerge x = new TrenchMerge();
        behindTheEnd("no value", x, 2, 0);
        x.tell(0, 0, 2, 31);
        Check.due("the greatest alone", 31, () -> x.at(0, 0, 2, 0));
        behindTheEnd("one value", x, 2, 1);
        TrenchMerge y = new TrenchMerge();
        y.tell(0, 0, 2, 0);
        Check.due("the least alone", 0, () -> y.at(0, 0, 2, 0));
        behindTheEnd("one value", y, 2, 1);
    }

    private static void theRowsValues() {
        TrenchMerge x = new TrenchMerge();
        x.insert(0, 0, NONE, 7);
        x.insert(0, 0, 0, 0);
        x.insert(0, 0, 1, 7);
        x.insert(0, 1, NONE, 8);
        Rows.due("a value may stand twice", x, 0, 0, "7 0 7");
        Rows.due("rows stand apart", x, 0, 1, "8");
    }

    private static void theRowsEnd() {
        TrenchMerge x = new TrenchMerge();
        behindTheEnd("no place", x, 3, 0);
        x.insert(0, 0, NONE, 999);
        x.insert(0, 0, 0, 998);
        Check.due("the last", 998, () -> x.at(0, 0, 3, 1));
        behindTheEnd("two places", x, 3, 2);
        x.remove(0, 0);
        Check.due("the last, when one is removed", 998, () -> x.at(0, 0, 3, 0));
        behindTheEnd("one place", x, 3, 1);
    }

    private static void eachDeskAnswersByWhatItKnows() {
        TrenchMerge x = new TrenchMerge();
        for (int desk = 0; desk < 6; desk++) {
            x.tell(desk, 15, 0, 100 + desk);
            x.tell(desk, 15, 1, 200 + desk);
            x.tell(desk, 15, 2, 20 + desk);
            x.insert(desk, 15, NONE, 300 + desk);
        }
        for (int d = 0; d < 6; d++) {
            int desk = d;
            Check.due("latest at " + desk, 100 + desk, () -> x.at(desk, 15, 0, 0));
            Check.due("sum at " + desk, 200 + desk, () -> x.at(desk, 15, 1, 0));
            Check.due("union at " + desk, 20 + desk, () -> x.at(desk, 15, 2, 0));
            Check.due("row at " + desk, 300 + desk, () -> x.at(desk, 15, 3, 0));
        }
    }

    private static void noSuchDesk() {
        Refused.outside("desk", Check.NO_SUCH, 0, 5, (x, desk) -> x.at(desk, 0, 0, 0));
    }

    private static void noSuchThing() {
        for (int f = 0; f < 4; f++) {
            int field = f;
            Refused.outside("thing", Check.NO_SUCH, 0, 15, (x, thing) -> x.at(0, thing, field, 0));
        }
    }

    private static void noSuchField() {
        Refused.outside("field", Check.NO_SUCH, 0, 3, (x, field) -> x.at(0, 0, field, 0));
    }

    private static void kBelow0() {
        for (int f = 0; f < 4; f++) {
            int field = f;
            Refused.below0("field " + field + ", k", Check.NO_SUCH, (x, k) -> x.at(0, 0, field, k));
            Refused.below0("nothing there, k", Check.NO_SUCH, (x, k) -> x.at(0, 9, field, k));
        }
    }
}
