/** Objects to ask and to refuse calls: a new one, an ordinary one, and one in which all is full. */
final class States {
    static final int NONE = TrenchMerge.NONE;
    static final int ALL = 120;

    // Tellings of an ordinary object, and of a full one: desk 0 knows them, but for the last two.
    static final int FORGOTTEN = 0;
    static final int LATEST = 1;
    static final int PLACE = 2;
    static final int PLACE_OF_THING_1 = 3;
    static final int SUM = 4;
    static final int UNION = 5;
    static final int RELATION = 6;
    static final int OPEN_RELATION = 7;
    static final int REMOVED = 8;
    static final int REMOVAL = 9;
    static final int DROPPED = 10;
    static final int DROPPING = 11;
    static final int UNKNOWN_PLACE = 12;
    static final int UNKNOWN_RELATION = 13;
    static final int ORDINARY = 14;

    private States() {
    }

    static TrenchMerge ordinary() {
        TrenchMerge x = new TrenchMerge();
        x.tell(0, 0, 0, 5);
        x.tell(0, 0, 0, 6);
        spread(x);
        x.compact();
        x.insert(0, 0, NONE, 7);
        x.insert(0, 1, NONE, 8);
        x.tell(0, 0, 1, 9);
        x.tell(0, 0, 2, 10);
        x.relate(0, 1, 2);
        x.relate(0, 2, 1);
        x.insert(0, 0, PLACE, 11);
        x.remove(0, REMOVED);
        x.relate(0, 3, 4);
        x.drop(0, DROPPED);
        x.join(1, 0);
        x.insert(1, 0, PLACE, 12);
        x.relate(1, 5, 6);
        x.number(0);
        x.number(5);
        return x;
    }

    /** An ordinary object with as many tellings more as there can be. */
    static TrenchMerge full() {
        TrenchMerge x = ordinary();
        for (int i = ORDINARY; i < ALL; i++) {
            x.tell(i % 6, i % 16, i % 3, i % 32);
        }
        return x;
    }

    /** All desks know what desk 0 knows. */
    static void spread(TrenchMerge x) {
        for (int desk = 1; desk < 6; desk++) {
            x.join(desk, 0);
        }
    }

    /** All desks know what any of them knows. */
    static void joinAll(TrenchMerge x) {
        for (int desk = 1; desk < 6; desk++) {
            x.join(0, desk);
        }
        spread(x);
    }

    static void fill(TrenchMerge x, int desk, int howMany) {
        for (int i = 0; i < howMany; i++) {
            x.tell(desk, 15, 1, 1);
        }
    }
}
