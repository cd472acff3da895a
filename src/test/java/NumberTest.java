/** Promise 8: the next number of a desk's own block. */
public final class NumberTest {
    public static void main(String[] args) {
        blocksBeginWith1000TimesTheDesk();
        numbersComeOneBehindTheOther();
        noOtherCallTakesANumber();
        refusedCallsTakeNoNumber();
        aNumberIsNoTelling();
        numbersAreGivenWhenAllIsFull();
        allNumbersOf512Calls();
        theThousandthIsTheLast();
        noSuchDesk();
        Check.finish();
    }

    private static void blocksBeginWith1000TimesTheDesk() {
        TrenchMerge x = new TrenchMerge();
        for (int d = 5; d >= 0; d--) {
            int desk = d;
            Check.due("desk " + desk, 1000 * desk, () -> x.number(desk));
        }
    }

    private static void numbersComeOneBehindTheOther() {
        TrenchMerge x = new TrenchMerge();
        for (int i = 0; i < 20; i++) {
            int next = i;
            Check.due("desk 0", next, () -> x.number(0));
            Check.due("desk 5", 5000 + next, () -> x.number(5));
        }
    }

    private static void noOtherCallTakesANumber() {
        TrenchMerge x = new TrenchMerge();
        x.number(0);
        x.tell(0, 0, 0, 1);
        x.join(0, 5);
        x.join(5, 0);
        x.compact();
        Check.due("desk 0", 1, () -> x.number(0));
        Check.due("desk 5", 5000, () -> x.number(5));
    }

    private static void refusedCallsTakeNoNumber() {
        TrenchMerge x = new TrenchMerge();
        Check.due("refused", Check.NO_SUCH, () -> x.number(6));
        Check.due("refused", Check.NO_SUCH, () -> x.number(-1));
        Check.due("desk 0", 0, () -> x.number(0));
        Check.due("desk 5", 5000, () -> x.number(5));
    }

    private static void aNumberIsNoTelling() {
        TrenchMerge x = new TrenchMerge();
        x.number(3);
        Check.due("none was made", 0, () -> x.count(0));
        Check.due("none is known", Check.NO_SUCH, () -> x.knows(3, 0));
        Check.due("the first telling", 0, () -> x.tell(3, 0, 0, 1));
    }

    private static void numbersAreGivenWhenAllIsFull() {
        TrenchMerge x = States.full();
        Check.due("desk 0", 1, () -> x.number(0));
        Check.due("desk 4", 4000, () -> x.number(4));
    }

    private static void allNumbersOf512Calls() {
        TrenchMerge x = new TrenchMerge();
        for (int i = 0; i < 512; i++) {
            int next = 1000 + i;
            Check.due("number", next, () -> x.number(1));
        }
    }

    /** More calls than an object is promised for: the document names this edge all the same. */
    private static void theThousandthIsTheLast() {
        for (int d = 0; d < 6; d++) {
            int desk = d;
            TrenchMerge x = new TrenchMerge();
            for (int i = 0; i < 999; i++) {
                x.number(desk);
            }
            Check.due("the thousandth", 1000 * desk + 999, () -> x.number(desk));
            Check.due("no more", Check.STATE, () -> x.number(desk));
            Check.due("nor later", Check.STATE, () -> x.number(desk));
            Check.due("other desks go on", 1000 * (5 - desk), () -> x.number(5 - desk));
            Check.due("no desk comes first", Check.NO_SUCH, () -> x.number(6));
        }
    }

    private static void noSuchDesk() {
        Refused.outside("desk", Check.NO_SUCH, 0, 5, (x, desk) -> x.number(desk));
    }
}
