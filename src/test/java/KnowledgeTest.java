/** Promises 1, 7, 8, 13 to 15 and 17: what desks know, join, forget and count. */
public final class KnowledgeTest {
    private static final int NONE = TrenchMerge.NONE;

    public static void main(String[] args) {
        newDesksKnowNothing();
        joinTellsHowManyWereNew();
        joinRefuses();
        numbersComeFromOwnBlocks();
        numbersEndAtAThousand();
        knowsTellsOfOneDesk();
        equalComparesTwoDesks();
        compactForgetsWhatAllKnowToBeOutdone();
        compactNeedsOneTellingThatAllKnow();
        compactLooksAtThingsAndFieldsApart();
        compactGoesByRank();
        forgottenTellingsAreKnownNowhere();
        countTellsOfAll();
        Check.finish();
    }

    private static void newDesksKnowNothing() {
        TrenchMerge x = new TrenchMerge();
        for (int d = 0; d < 6; d++) {
            int desk = d;
            Check.due("knows", Check.NO_SUCH, () -> x.knows(desk, 0));
            Check.due("equal", true, () -> x.equal(desk, 5 - desk));
            Check.due("join", 0, () -> x.join(desk, 5 - desk));
            Check.due("latest", NONE, () -> x.at(desk, 15, 0, 0));
            Check.due("sum", 0, () -> x.at(desk, 15, 1, 0));
            Check.due("union", NONE, () -> x.at(desk, 15, 2, 0));
            Check.due("row", NONE, () -> x.at(desk, 15, 3, 0));
            Check.due("place", NONE, () -> x.place(desk, 0, 0));
            Check.due("order", 0, () -> x.order(desk, 0, 15));
            Check.due("open", NONE, () -> x.open(desk, 0));
            Check.due("number", 1000 * desk, () -> x.number(desk));
        }
        Check.due("compact", 0, () -> x.compact());
        Check.due("made", 0, () -> x.count(0));
        Check.due("forgotten", 0, () -> x.count(1));
        Check.due("unshared", 0, () -> x.count(2));
    }

    private static void joinTellsHowManyWereNew() {
        TrenchMerge x = new TrenchMerge();
        x.tell(0, 0, 1, 1);
        x.tell(0, 0, 1, 2);
        x.tell(1, 0, 1, 4);
        Check.due("join itself", 0, () -> x.join(0, 0));
        Check.due("join", 2, () -> x.join(1, 0));
        Check.due("the sum of all", 7, () -> x.at(1, 0, 1, 0));
        Check.due("the other desk learns nothing", 3, () -> x.at(0, 0, 1, 0));
        Check.due("join again", 0, () -> x.join(1, 0));
        Check.due("no value counts twice", 7, () -> x.at(1, 0, 1, 0));
        Check.due("join onward", 3, () -> x.join(5, 1));
        Check.due("round about", 1, () -> x.join(0, 5));
        Check.due("all of them", 7, () -> x.at(0, 0, 1, 0));
    }

    private static void joinRefuses() {
        TrenchMerge x = new TrenchMerge();
        Check.due("desk -1", Check.NO_SUCH, () -> x.join(-1, 0));
        Check.due("desk 6", Check.NO_SUCH, () -> x.join(6, 0));
        Check.due("other -1", Check.NO_SUCH, () -> x.join(0, -1));
        Check.due("other 6", Check.NO_SUCH, () -> x.join(0, 6));
    }

    private static void numbersComeFromOwnBlocks() {
        TrenchMerge x = new TrenchMerge();
        Check.due("first", 0, () -> x.number(0));
        Check.due("second", 1, () -> x.number(0));
        Check.due("last desk", 5000, () -> x.number(5));
        x.join(0, 5);
        Check.due("a join changes no number", 2, () -> x.number(0));
        Check.due("desk -1", Check.NO_SUCH, () -> x.number(-1));
        Check.due("desk 6", Check.NO_SUCH, () -> x.number(6));
        Check.due("the next one", 5001, () -> x.number(5));
        Check.due("no telling is made", 0, () -> x.count(0));
    }

    /** More calls than an object is promised for: the document names this edge all the same. */
    private static void numbersEndAtAThousand() {
        TrenchMerge x = new TrenchMerge();
        for (int i = 0; i < 1000; i++) {
            int want = 2000 + i;
            Check.due("number", want, () -> x.number(2));
        }
        Check.due("a thousand were given", Check.STATE, () -> x.number(2));
        Check.due("and stay given", Check.STATE, () -> x.number(2));
        Check.due("other desks go on", 3000, () -> x.number(3));
    }

    private static void knowsTellsOfOneDesk() {
        TrenchMerge x = new TrenchMerge();
        x.relate(4, 1, 2);
        Check.due("its own desk", true, () -> x.knows(4, 0));
        Check.due("another desk", false, () -> x.knows(3, 0));
        Check.due("no such telling", Check.NO_SUCH, () -> x.knows(4, 1));
        Check.due("telling -1", Check.NO_SUCH, () -> x.knows(4, -1));
        Check.due("telling 120", Check.NO_SUCH, () -> x.knows(4, 120));
        Check.due("desk 6", Check.NO_SUCH, () -> x.knows(6, 0));
        Check.due("desk -1", Check.NO_SUCH, () -> x.knows(-1, 0));
    }

    private static void equalComparesTwoDesks() {
        TrenchMerge x = new TrenchMerge();
        x.tell(0, 0, 1, 7);
        x.tell(1, 0, 1, 7);
        Check.due("as many, but others", false, () -> x.equal(0, 1));
        Check.due("a desk with itself", true, () -> x.equal(0, 0));
        x.join(0, 1);
        Check.due("more", false, () -> x.equal(0, 1));
        Check.due("fewer", false, () -> x.equal(1, 0));
        x.join(1, 0);
        Check.due("the same", true, () -> x.equal(0, 1));
        Check.due("one 6", Check.NO_SUCH, () -> x.equal(6, 0));
        Check.due("other -1", Check.NO_SUCH, () -> x.equal(0, -1));
    }

    private static void joinAll(TrenchMerge x) {
        for (int desk = 1; desk < 6; desk++) {
            x.join(0, desk);
        }
        for (int desk = 1; desk < 6; desk++) {
            x.join(desk, 0);
        }
    }

    private static void compactForgetsWhatAllKnowToBeOutdone() {
        TrenchMerge x = new TrenchMerge();
        x.tell(0, 0, 0, 5);
        x.tell(0, 0, 0, 6);
        x.tell(0, 0, 0, 7);
        Check.due("not before all know", 0, () -> x.compact());
        joinAll(x);
        Check.due("two are outdone", 2, () -> x.compact());
        Check.due("nothing more", 0, () -> x.compact());
        Check.due("the latest stays", 7, () -> x.at(3, 0, 0, 0));
        Check.due("two forgotten", 2, () -> x.count(1));
        x.tell(1, 0, 0, 8);
        Check.due("stamps go on", 4, () -> x.about(1, 3, 0));
        joinAll(x);
        Check.due("outdone later", 1, () -> x.compact());
        Check.due("three forgotten", 3, () -> x.count(1));
    }

    private static void compactNeedsOneTellingThatAllKnow() {
        TrenchMerge x = new TrenchMerge();
        x.tell(0, 0, 0, 5);
        joinAll(x);
        for (int desk = 0; desk < 6; desk++) {
            x.tell(desk, 0, 0, 10 + desk);
        }
        Check.due("each desk knows a later one, none the same", 0, () -> x.compact());
        for (int desk = 0; desk < 5; desk++) {
            x.join(desk, 5);
        }
        Check.due("now one that all know", 1, () -> x.compact());
        Check.due("those that not all know stay", true, () -> x.knows(0, 1));
    }

    private static void compactLooksAtThingsAndFieldsApart() {
        TrenchMerge x = new TrenchMerge();
        x.tell(0, 0, 0, 5);
        x.tell(0, 1, 0, 6);
        x.tell(0, 0, 1, 7);
        x.tell(0, 0, 1, 8);
        x.tell(0, 0, 2, 9);
        x.tell(0, 0, 2, 9);
        x.insert(0, 0, NONE, 1);
        x.insert(0, 0, NONE, 2);
        joinAll(x);
        Check.due("no two of one thing's field 0", 0, () -> x.compact());
        x.tell(0, 0, 0, 4);
        joinAll(x);
        Check.due("one of thing 0", 1, () -> x.compact());
        Check.due("thing 1 keeps its own", 6, () -> x.at(5, 1, 0, 0));
        Check.due("the sum stays", 15, () -> x.at(5, 0, 1, 0));
    }

    private static void compactGoesByRank() {
        TrenchMerge x = new TrenchMerge();
        x.tell(3, 0, 0, 30);
        x.tell(1, 0, 0, 10);
        joinAll(x);
        Check.due("one is outdone", 1, () -> x.compact());
        Check.due("not the one that was told first", true, () -> x.knows(0, 0));
        Check.due("but the one of the lower desk", false, () -> x.knows(0, 1));
        Check.due("the latest", 30, () -> x.at(0, 0, 0, 0));
    }

    private static void forgottenTellingsAreKnownNowhere() {
        TrenchMerge x = new TrenchMerge();
        x.tell(0, 0, 0, 5);
        x.tell(0, 0, 0, 6);
        joinAll(x);
        x.compact();
        for (int d = 0; d < 6; d++) {
            int desk = d;
            Check.due("knows", false, () -> x.knows(desk, 0));
            Check.due("about", Check.NO_SUCH, () -> x.about(desk, 0, 0));
            Check.due("remove", Check.NO_SUCH, () -> x.remove(desk, 0));
            Check.due("drop", Check.NO_SUCH, () -> x.drop(desk, 0));
            Check.due("insert", Check.NO_SUCH, () -> x.insert(desk, 0, 0, 1));
            Check.due("join", 0, () -> x.join(desk, 5 - desk));
        }
        Check.due("the next telling is a new one", 2, () -> x.tell(0, 0, 0, 7));
    }

    private static void countTellsOfAll() {
        TrenchMerge x = new TrenchMerge();
        x.tell(0, 0, 0, 5);
        x.tell(0, 0, 0, 6);
        x.tell(1, 0, 1, 6);
        Check.due("made", 3, () -> x.count(0));
        Check.due("unshared", 3, () -> x.count(2));
        joinAll(x);
        Check.due("all are shared", 0, () -> x.count(2));
        x.compact();
        x.number(0);
        x.relate(5, 1, 2);
        Check.due("made, forgotten ones too", 4, () -> x.count(0));
        Check.due("forgotten", 1, () -> x.count(1));
        Check.due("forgotten ones are not unshared", 1, () -> x.count(2));
        Check.due("what -1", Check.ARGUMENT, () -> x.count(-1));
        Check.due("what 3", Check.ARGUMENT, () -> x.count(3));
    }
}
