/** Promises 9 to 12 and 16: what a desk answers out of what it knows. */
public final class AnswersTest {
    private static final int NONE = TrenchMerge.NONE;

    public static void main(String[] args) {
        latestGoesByRank();
        sumAddsAllValues();
        unionHoldsEachValueOnceBySize();
        rowTellsValuesAtTheirPlaces();
        atRefuses();
        placeTellsTheTelling();
        placeRefuses();
        orderGoesAlongChains();
        orderRefuses();
        openRelationsAreToldByRank();
        openRelationsCloseNoRings();
        openRelationsHoldWhenTheRingIsDropped();
        openRefuses();
        aboutTellsOfEverySort();
        aboutRefuses();
        Check.finish();
    }

    private static void latestGoesByRank() {
        TrenchMerge x = new TrenchMerge();
        x.tell(0, 2, 0, 50);
        x.tell(0, 2, 0, 60);
        x.tell(4, 2, 0, 70);
        x.join(0, 4);
        Check.due("the higher stamp", 60, () -> x.at(0, 2, 0, 0));
        x.tell(3, 2, 0, 80);
        x.join(4, 3);
        Check.due("equal stamps: the higher desk", 70, () -> x.at(4, 2, 0, 0));
        Check.due("k 1", NONE, () -> x.at(0, 2, 0, 1));
        Check.due("another thing", NONE, () -> x.at(0, 3, 0, 0));
        x.tell(0, 2, 0, 0);
        Check.due("a smaller value told later", 0, () -> x.at(0, 2, 0, 0));
    }

    private static void sumAddsAllValues() {
        TrenchMerge x = new TrenchMerge();
        Check.due("without tellings", 0, () -> x.at(0, 0, 1, 0));
        Check.due("k 1 without tellings", NONE, () -> x.at(0, 0, 1, 1));
        for (int i = 0; i < 119; i++) {
            x.tell(0, 0, 1, 999);
        }
        x.tell(0, 1, 1, 3);
        Check.due("many", 119 * 999, () -> x.at(0, 0, 1, 0));
        Check.due("another thing", 3, () -> x.at(0, 1, 1, 0));
        Check.due("k 1", NONE, () -> x.at(0, 0, 1, 1));
    }

    private static void unionHoldsEachValueOnceBySize() {
        TrenchMerge x = new TrenchMerge();
        x.tell(0, 0, 2, 31);
        x.tell(0, 0, 2, 4);
        x.tell(1, 0, 2, 31);
        x.tell(1, 0, 2, 0);
        x.tell(1, 1, 2, 9);
        x.join(0, 1);
        Check.due("least", 0, () -> x.at(0, 0, 2, 0));
        Check.due("middle", 4, () -> x.at(0, 0, 2, 1));
        Check.due("greatest", 31, () -> x.at(0, 0, 2, 2));
        Check.due("no more", NONE, () -> x.at(0, 0, 2, 3));
        Check.due("far behind", NONE, () -> x.at(0, 0, 2, Integer.MAX_VALUE));
        Check.due("the other desk", 31, () -> x.at(1, 0, 2, 1));
        for (int v = 31; v >= 0; v--) {
            x.tell(2, 0, 2, v);
        }
        for (int v = 0; v < 32; v++) {
            int k = v;
            Check.due("of all", k, () -> x.at(2, 0, 2, k));
        }
        Check.due("behind all", NONE, () -> x.at(2, 0, 2, 32));
    }

    private static void rowTellsValuesAtTheirPlaces() {
        TrenchMerge x = new TrenchMerge();
        x.insert(0, 0, NONE, 7);
        x.insert(0, 0, 0, 7);
        x.insert(0, 1, NONE, 8);
        Rows.due("a value may stand twice", x, 0, 0, "7 7");
        Rows.due("rows stand apart", x, 0, 1, "8");
        int last = 1;
        for (int i = 0; i < 100; i++) {
            last = x.insert(0, 0, last, i);
        }
        Check.due("a long chain", 99, () -> x.at(0, 0, 3, 101));
        Check.due("its end", NONE, () -> x.at(0, 0, 3, 102));
        Check.due("far behind", NONE, () -> x.at(0, 0, 3, Integer.MAX_VALUE));
    }

    private static void atRefuses() {
        TrenchMerge x = new TrenchMerge();
        Check.due("desk -1", Check.NO_SUCH, () -> x.at(-1, 0, 0, 0));
        Check.due("desk 6", Check.NO_SUCH, () -> x.at(6, 0, 0, 0));
        Check.due("thing -1", Check.NO_SUCH, () -> x.at(0, -1, 0, 0));
        Check.due("thing 16", Check.NO_SUCH, () -> x.at(0, 16, 0, 0));
        Check.due("field -1", Check.NO_SUCH, () -> x.at(0, 0, -1, 0));
        Check.due("field 4", Check.NO_SUCH, () -> x.at(0, 0, 4, 0));
        for (int f = 0; f < 4; f++) {
            int field = f;
            Check.due("k -1", Check.NO_SUCH, () -> x.at(0, 0, field, -1));
        }
    }

    private static void placeTellsTheTelling() {
        TrenchMerge x = new TrenchMerge();
        x.insert(0, 5, NONE, 10);
        x.insert(0, 5, NONE, 20);
        x.insert(0, 5, 0, 30);
        Check.due("first", 1, () -> x.place(0, 5, 0));
        Check.due("second", 0, () -> x.place(0, 5, 1));
        Check.due("third", 2, () -> x.place(0, 5, 2));
        Check.due("no more", NONE, () -> x.place(0, 5, 3));
        x.remove(0, 0);
        Check.due("a removed place is not told", 2, () -> x.place(0, 5, 1));
        Check.due("one fewer", NONE, () -> x.place(0, 5, 2));
        Check.due("another desk", NONE, () -> x.place(1, 5, 0));
        Check.due("another thing", NONE, () -> x.place(0, 4, 0));
    }

    private static void placeRefuses() {
        TrenchMerge x = new TrenchMerge();
        Check.due("desk 6", Check.NO_SUCH, () -> x.place(6, 0, 0));
        Check.due("desk -1", Check.NO_SUCH, () -> x.place(-1, 0, 0));
        Check.due("thing 16", Check.NO_SUCH, () -> x.place(0, 16, 0));
        Check.due("thing -1", Check.NO_SUCH, () -> x.place(0, -1, 0));
        Check.due("k -1", Check.NO_SUCH, () -> x.place(0, 0, -1));
    }

    private static void orderGoesAlongChains() {
        TrenchMerge x = new TrenchMerge();
        for (int context = 0; context < 15; context++) {
            x.relate(0, context, context + 1);
        }
        Check.due("along all", 1, () -> x.order(0, 0, 15));
        Check.due("the other way", -1, () -> x.order(0, 15, 0));
        Check.due("next to one another", 1, () -> x.order(0, 7, 8));
        Check.due("a context with itself", 0, () -> x.order(0, 7, 7));
        Check.due("another desk", 0, () -> x.order(1, 0, 15));
        x.drop(0, 7);
        Check.due("a gap", 0, () -> x.order(0, 0, 15));
        Check.due("before the gap", 1, () -> x.order(0, 0, 7));
        Check.due("behind the gap", 1, () -> x.order(0, 8, 15));
    }

    private static void orderRefuses() {
        TrenchMerge x = new TrenchMerge();
        Check.due("desk 6", Check.NO_SUCH, () -> x.order(6, 0, 1));
        Check.due("desk -1", Check.NO_SUCH, () -> x.order(-1, 0, 1));
        Check.due("a -1", Check.NO_SUCH, () -> x.order(0, -1, 1));
        Check.due("a 16", Check.NO_SUCH, () -> x.order(0, 16, 1));
        Check.due("b -1", Check.NO_SUCH, () -> x.order(0, 1, -1));
        Check.due("b 16", Check.NO_SUCH, () -> x.order(0, 1, 16));
    }

    private static void openRelationsAreToldByRank() {
        TrenchMerge x = new TrenchMerge();
        x.relate(5, 2, 1);
        x.relate(0, 1, 2);
        x.relate(5, 3, 4);
        x.relate(0, 4, 3);
        x.join(5, 0);
        Check.due("not the one that was told first", 0, () -> x.open(5, 0));
        Check.due("the second", 2, () -> x.open(5, 1));
        Check.due("no more", NONE, () -> x.open(5, 2));
        Check.due("the lower desk's holds", 1, () -> x.order(5, 1, 2));
        Check.due("where it is the only one", NONE, () -> x.open(0, 0));
        x.join(0, 5);
        Check.due("equal knowledge, equal answers", 0, () -> x.open(0, 0));
    }

    private static void openRelationsCloseNoRings() {
        TrenchMerge x = new TrenchMerge();
        x.relate(0, 0, 1);
        x.relate(0, 1, 0);
        x.relate(0, 2, 1);
        x.relate(0, 0, 2);
        Check.due("it would ring", 1, () -> x.open(0, 0));
        Check.due("a ring over an open one is none", NONE, () -> x.open(0, 1));
        Check.due("so it holds", 1, () -> x.order(0, 0, 2));
    }

    private static void openRelationsHoldWhenTheRingIsDropped() {
        TrenchMerge x = new TrenchMerge();
        x.relate(0, 1, 2);
        x.relate(0, 2, 3);
        x.relate(0, 3, 1);
        x.relate(0, 3, 2);
        x.drop(0, 3);
        Check.due("a dropped one is not open", 2, () -> x.open(0, 0));
        Check.due("nor counted", NONE, () -> x.open(0, 1));
        x.drop(0, 1);
        Check.due("the ring is gone", NONE, () -> x.open(0, 0));
        Check.due("what was open holds", 1, () -> x.order(0, 3, 2));
    }

    private static void openRefuses() {
        TrenchMerge x = new TrenchMerge();
        Check.due("desk 6", Check.NO_SUCH, () -> x.open(6, 0));
        Check.due("desk -1", Check.NO_SUCH, () -> x.open(-1, 0));
        Check.due("k -1", Check.NO_SUCH, () -> x.open(0, -1));
        Check.due("far behind", NONE, () -> x.open(0, Integer.MAX_VALUE));
    }

    private static void aboutDue(TrenchMerge x, int telling, int... want) {
        for (int i = 0; i < want.length; i++) {
            int what = i;
            Check.due("about " + telling + ", " + what, want[i], () -> x.about(2, telling, what));
        }
    }

    private static void aboutTellsOfEverySort() {
        TrenchMerge x = new TrenchMerge();
        x.tell(1, 9, 0, 500);
        x.tell(1, 9, 1, 999);
        x.tell(2, 9, 2, 31);
        x.join(2, 1);
        x.insert(2, 9, NONE, 77);
        x.remove(2, 3);
        x.relate(2, 15, 14);
        x.drop(2, 5);
        aboutDue(x, 0, 1, 1, 0, 500);
        aboutDue(x, 1, 2, 1, 1, 999);
        aboutDue(x, 2, 1, 2, 2, 31);
        aboutDue(x, 3, 3, 2, 3, 77);
        aboutDue(x, 4, 4, 2, 4, 3);
        aboutDue(x, 5, 5, 2, 5, 16 * 15 + 14);
        aboutDue(x, 6, 6, 2, 6, 5);
    }

    private static void aboutRefuses() {
        TrenchMerge x = new TrenchMerge();
        x.tell(0, 0, 0, 1);
        Check.due("desk 6", Check.NO_SUCH, () -> x.about(6, 0, 0));
        Check.due("desk -1", Check.NO_SUCH, () -> x.about(-1, 0, 0));
        Check.due("telling -1", Check.NO_SUCH, () -> x.about(0, -1, 0));
        Check.due("no such telling", Check.NO_SUCH, () -> x.about(0, 1, 0));
        Check.due("not known here", Check.NO_SUCH, () -> x.about(1, 0, 0));
        Check.due("unknown before a wrong what", Check.NO_SUCH, () -> x.about(1, 0, 4));
        Check.due("what -1", Check.ARGUMENT, () -> x.about(0, 0, -1));
        Check.due("what 4", Check.ARGUMENT, () -> x.about(0, 0, 4));
    }
}
