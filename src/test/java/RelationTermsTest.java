/** The terms of relations: those that hold, stand open or are dropped, and what is over what. */
public final class RelationTermsTest {
    private static final int NONE = TrenchMerge.NONE;

    public static void main(String[] args) {
        theShortestRing();
        theLongestRing();
        allButARingHold();
        theSameRelationTwiceIsNoRing();
        twoWaysAreNoRing();
        relationsAreTakenByRank();
        unknownRelationsDoNotCount();
        droppedRelationsDoNotCount();
        aDroppingCountsWhereItIsKnown();
        aRelationIsDroppedAgain();
        anOpenRelationClosesNoRing();
        anOpenRelationHoldsWhenTheRingIsGone();
        overGoesAlongRelationsThatHold();
        Check.finish();
    }

    private static void theShortestRing() {
        TrenchMerge x = new TrenchMerge();
        x.relate(0, 0, 15);
        x.relate(0, 15, 0);
        Check.due("open", 1, () -> x.open(0, 0));
        Check.due("no more", NONE, () -> x.open(0, 1));
        Check.due("the first holds", 1, () -> x.order(0, 0, 15));
    }

    private static void theLongestRing() {
        TrenchMerge x = new TrenchMerge();
        for (int context = 0; context < 15; context++) {
            x.relate(0, context, context + 1);
        }
        Check.due("no ring yet", NONE, () -> x.open(0, 0));
        x.relate(0, 15, 0);
        Check.due("the last closes it", 15, () -> x.open(0, 0));
        Check.due("all others hold", 1, () -> x.order(0, 0, 15));
        Check.due("the other way", -1, () -> x.order(0, 15, 0));
    }

    private static void allButARingHold() {
        TrenchMerge x = new TrenchMerge();
        for (int a = 0; a < 15; a++) {
            for (int b = a + 1; b < 16; b++) {
                x.relate(0, a, b);
            }
        }
        Check.due("120 relations", 120, () -> x.count(0));
        Check.due("none is open", NONE, () -> x.open(0, 0));
        for (int i = 0; i < 15; i++) {
            int a = i;
            Check.due("over the next", 1, () -> x.order(0, a, a + 1));
            Check.due("over the last", 1, () -> x.order(0, a, 15));
            Check.due("under the first", a == 0 ? 0 : -1, () -> x.order(0, a, 0));
        }
    }

    private static void theSameRelationTwiceIsNoRing() {
        TrenchMerge x = new TrenchMerge();
        x.relate(0, 3, 4);
        x.relate(0, 3, 4);
        Check.due("none is open", NONE, () -> x.open(0, 0));
        x.drop(0, 0);
        Check.due("the other one holds", 1, () -> x.order(0, 3, 4));
        x.drop(0, 1);
        Check.due("none holds", 0, () -> x.order(0, 3, 4));
    }

    private static void twoWaysAreNoRing() {
        TrenchMerge x = new TrenchMerge();
        x.relate(0, 1, 2);
        x.relate(0, 1, 3);
        x.relate(0, 2, 4);
        x.relate(0, 3, 4);
        x.relate(0, 1, 4);
        Check.due("none is open", NONE, () -> x.open(0, 0));
        Check.due("side by side", 0, () -> x.order(0, 2, 3));
        Check.due("over", 1, () -> x.order(0, 1, 4));
    }

    private static void relationsAreTakenByRank() {
        TrenchMerge x = new TrenchMerge();
        x.relate(5, 2, 1);
        x.relate(0, 1, 2);
        x.join(5, 0);
        Check.due("equal stamps: the higher desk's is open", 0, () -> x.open(5, 0));
        Check.due("the lower desk's holds", 1, () -> x.order(5, 1, 2));
        TrenchMerge y = new TrenchMerge();
        y.tell(0, 0, 0, 1);
        y.relate(0, 1, 2);
        y.relate(5, 2, 1);
        y.join(0, 5);
        Check.due("the higher stamp's is open", 1, () -> y.open(0, 0));
        Check.due("the lower stamp's holds", -1, () -> y.order(0, 1, 2));
    }

    private static void unknownRelationsDoNotCount() {
        TrenchMerge x = new TrenchMerge();
        x.relate(0, 1, 2);
        x.relate(1, 2, 1);
        Check.due("not open at desk 0", NONE, () -> x.open(0, 0));
        Check.due("not open at desk 1", NONE, () -> x.open(1, 0));
        Check.due("desk 0", 1, () -> x.order(0, 1, 2));
        Check.due("desk 1", -1, () -> x.order(1, 1, 2));
        Check.due("desk 2", 0, () -> x.order(2, 1, 2));
        x.join(0, 1);
        Check.due("open where both are known", 1, () -> x.open(0, 0));
        Check.due("and nowhere else", NONE, () -> x.open(1, 0));
    }

    private static void droppedRelationsDoNotCount() {
        TrenchMerge x = new TrenchMerge();
        x.relate(0, 1, 2);
        x.drop(0, 0);
        x.relate(0, 2, 1);
        Check.due("no ring with a dropped one", NONE, () -> x.open(0, 0));
        Check.due("it holds", 1, () -> x.order(0, 2, 1));
        x.relate(0, 1, 2);
        Check.due("a ring", 3, () -> x.open(0, 0));
        x.drop(0, 3);
        Check.due("a dropped one is not open", NONE, () -> x.open(0, 0));
    }

    private static void aDroppingCountsWhereItIsKnown() {
        TrenchMerge x = new TrenchMerge();
        x.relate(0, 1, 2);
        x.join(1, 0);
        x.drop(1, 0);
        Check.due("where it was told", 0, () -> x.order(1, 1, 2));
        Check.due("where it is not known", 1, () -> x.order(0, 1, 2));
        x.join(4, 0);
        Check.due("joined without it", 1, () -> x.order(4, 1, 2));
        x.join(4, 1);
        Check.due("joined with it", 0, () -> x.order(4, 1, 2));
        x.join(0, 4);
        Check.due("by a third desk", 0, () -> x.order(0, 1, 2));
    }

    private static void aRelationIsDroppedAgain() {
        TrenchMerge x = new TrenchMerge();
        x.relate(0, 1, 2);
        x.join(1, 0);
        Check.due("dropped", 1, () -> x.drop(0, 0));
        Check.due("again", 2, () -> x.drop(0, 0));
        Check.due("it does not hold", 0, () -> x.order(0, 1, 2));
        Check.due("at a desk that does not know", 3, () -> x.drop(1, 0));
        Check.due("it stays dropped at the first desk", 0, () -> x.order(0, 1, 2));
        Check.due("and is dropped at the second", 0, () -> x.order(1, 1, 2));
    }

    private static void anOpenRelationClosesNoRing() {
        TrenchMerge x = new TrenchMerge();
        x.relate(0, 0, 1);
        x.relate(0, 1, 0);
        x.relate(0, 2, 1);
        x.relate(0, 0, 2);
        Check.due("it would ring", 1, () -> x.open(0, 0));
        Check.due("a ring over an open one is none", NONE, () -> x.open(0, 1));
        Check.due("so it holds", 1, () -> x.order(0, 0, 2));
    }

    private static void anOpenRelationHoldsWhenTheRingIsGone() {
        TrenchMerge x = new TrenchMerge();
        x.relate(0, 1, 2);
        x.relate(0, 2, 3);
        x.relate(0, 3, 1);
        Check.due("open", 2, () -> x.open(0, 0));
        Check.due("it does not hold", -1, () -> x.order(0, 3, 1));
        x.drop(0, 1);
        Check.due("the ring is gone", NONE, () -> x.open(0, 0));
        Check.due("it holds", 1, () -> x.order(0, 3, 1));
        Check.due("and goes on", 1, () -> x.order(0, 3, 2));
    }

    private static void overGoesAlongRelationsThatHold() {
        TrenchMerge x = new TrenchMerge();
        x.relate(0, 7, 8);
        x.relate(0, 6, 7);
        x.relate(0, 8, 9);
        Check.due("two steps", 1, () -> x.order(0, 6, 8));
        Check.due("three steps", 1, () -> x.order(0, 6, 9));
        Check.due("not before the beginning", 0, () -> x.order(0, 5, 9));
        x.relate(0, 9, 6);
        x.relate(0, 5, 9);
        Check.due("not along an open one", 0, () -> x.order(0, 5, 6));
        x.drop(0, 0);
        Check.due("now it holds", 1, () -> x.order(0, 5, 7));
    }
}
