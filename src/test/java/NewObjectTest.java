/** Promise 1: six desks that know nothing. */
public final class NewObjectTest {
    private static final int NONE = TrenchMerge.NONE;

    public static void main(String[] args) {
        sixDesks();
        eachDeskKnowsNothing();
        nothingWasMade();
        objectsStandApart();
        Check.finish();
    }

    private static void sixDesks() {
        TrenchMerge x = new TrenchMerge();
        for (int d = 0; d < 6; d++) {
            int desk = d;
            Check.due("desk " + desk, 1000 * desk, () -> x.number(desk));
        }
        Check.due("no desk before", Check.NO_SUCH, () -> x.number(-1));
        Check.due("no desk behind", Check.NO_SUCH, () -> x.number(6));
    }

    private static void eachDeskKnowsNothing() {
        TrenchMerge x = new TrenchMerge();
        for (int d = 0; d < 6; d++) {
            int desk = d;
            Check.due("knows", Check.NO_SUCH, () -> x.knows(desk, 0));
            Check.due("about", Check.NO_SUCH, () -> x.about(desk, 0, 0));
            Check.due("remove", Check.NO_SUCH, () -> x.remove(desk, 0));
            Check.due("drop", Check.NO_SUCH, () -> x.drop(desk, 0));
            Check.due("insert behind", Check.NO_SUCH, () -> x.insert(desk, 0, 0, 1));
            Check.due("equal", true, () -> x.equal(desk, 5 - desk));
            Check.due("join", 0, () -> x.join(desk, 5 - desk));
            Check.due("order", 0, () -> x.order(desk, 0, 15));
            Check.due("open", NONE, () -> x.open(desk, 0));
            for (int t = 0; t < 16; t++) {
                int thing = t;
                Check.due("latest", NONE, () -> x.at(desk, thing, 0, 0));
                Check.due("sum", 0, () -> x.at(desk, thing, 1, 0));
                Check.due("union", NONE, () -> x.at(desk, thing, 2, 0));
                Check.due("row", NONE, () -> x.place(desk, thing, 0));
            }
        }
    }

    private static void nothingWasMade() {
        TrenchMerge x = new TrenchMerge();
        Check.due("made", 0, () -> x.count(0));
        Check.due("forgotten", 0, () -> x.count(1));
        Check.due("unshared", 0, () -> x.count(2));
        Check.due("compact", 0, () -> x.compact());
    }

    private static void objectsStandApart() {
        Check.same("new beside a full one", Snapshot.of(TrenchMerge::new),
                Snapshot.of(() -> {
                    States.full();
                    return new TrenchMerge();
                }));
        TrenchMerge one = new TrenchMerge();
        TrenchMerge other = new TrenchMerge();
        one.tell(0, 0, 0, 1);
        Check.due("nothing was told to the other", 0, () -> other.count(0));
        Check.due("nor is it known there", NONE, () -> other.at(0, 0, 0, 0));
    }
}
