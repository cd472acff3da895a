import java.util.function.Function;

/** The terms' last line: a call that throws changes nothing that later calls could tell. */
public final class RefusalsTest {
    private static final int NONE = TrenchMerge.NONE;

    public static void main(String[] args) {
        unchanged("tell, desk", x -> x.tell(6, 0, 0, 1));
        unchanged("tell, thing", x -> x.tell(0, 16, 0, 1));
        unchanged("tell, field", x -> x.tell(0, 0, 3, 1));
        unchanged("tell, value", x -> x.tell(0, 0, 0, 1000));
        unchanged("insert, unknown", x -> x.insert(1, 0, 3, 1));
        unchanged("insert, no place", x -> x.insert(0, 0, 0, 1));
        unchanged("insert, value", x -> x.insert(0, 0, 2, 1000));
        unchanged("remove, unknown", x -> x.remove(1, 3));
        unchanged("remove, no place", x -> x.remove(0, 0));
        unchanged("relate, context", x -> x.relate(0, 1, 16));
        unchanged("relate, a is b", x -> x.relate(0, 1, 1));
        unchanged("drop, unknown", x -> x.drop(1, 6));
        unchanged("drop, no relation", x -> x.drop(0, 3));
        unchanged("join, desk", x -> x.join(6, 0));
        unchanged("join, other", x -> x.join(0, 6));
        unchanged("number, desk", x -> x.number(-1));
        unchanged("at, k", x -> x.at(0, 0, 3, -1));
        unchanged("place, k", x -> x.place(0, 0, -1));
        unchanged("order, context", x -> x.order(0, -1, 1));
        unchanged("open, k", x -> x.open(0, -1));
        unchanged("knows, telling", x -> x.knows(0, 10));
        unchanged("equal, other", x -> x.equal(0, 6));
        unchanged("about, what", x -> x.about(0, 0, 4));
        unchanged("count, what", x -> x.count(3));
        Check.finish();
    }

    private static void unchanged(String what, Function<TrenchMerge, Object> refused) {
        TrenchMerge x = prepared();
        String answer = Check.answer(() -> refused.apply(x));
        Check.same(what + " throws", "true", String.valueOf(answer.startsWith("throws.")));
        Check.same(what + ": all afterwards", allAnswers(prepared()), allAnswers(x));
    }

    /** Desk 0 knows most, desk 1 less, and each sort of telling is there. */
    private static TrenchMerge prepared() {
        TrenchMerge x = new TrenchMerge();
        x.tell(0, 0, 0, 5);
        x.tell(0, 0, 1, 6);
        x.insert(0, 0, NONE, 7);
        x.join(1, 0);
        x.insert(0, 0, 2, 8);
        x.remove(0, 2);
        x.relate(0, 1, 2);
        x.relate(0, 2, 1);
        x.tell(1, 0, 2, 9);
        x.relate(0, 2, 3);
        x.drop(0, 8);
        x.number(0);
        return x;
    }

    /** Stays within the calls that an object is promised for. */
    private static String allAnswers(TrenchMerge x) {
        StringBuilder all = new StringBuilder();
        for (int what = 0; what < 3; what++) {
            add(all, x.count(what));
        }
        for (int desk = 0; desk < 3; desk++) {
            addDesk(all, x, desk);
        }
        add(all, x.join(2, 0));
        add(all, x.join(2, 1));
        add(all, x.tell(2, 0, 0, 1));
        add(all, x.about(2, x.count(0) - 1, 0));
        for (int desk = 0; desk < 6; desk++) {
            add(all, x.number(desk));
        }
        add(all, x.compact());
        return all.toString();
    }

    private static void addDesk(StringBuilder all, TrenchMerge x, int desk) {
        for (int t = 0; t < 10; t++) {
            int telling = t;
            all.append(x.knows(desk, telling)).append(' ');
            for (int w = 0; w < 4; w++) {
                int what = w;
                all.append(Check.answer(() -> x.about(desk, telling, what))).append(' ');
            }
        }
        for (int k = 0; k < 3; k++) {
            for (int field = 0; field < 4; field++) {
                add(all, x.at(desk, 0, field, k));
            }
            add(all, x.place(desk, 0, k));
            add(all, x.open(desk, k));
        }
        for (int a = 1; a < 4; a++) {
            for (int b = 1; b < 4; b++) {
                add(all, x.order(desk, a, b));
            }
        }
        all.append(x.equal(desk, 0)).append(' ').append(x.equal(desk, 1)).append('\n');
    }

    private static void add(StringBuilder all, int answer) {
        all.append(answer).append(' ');
    }
}
