/** Reads a whole row, up to the first NONE. */
final class Rows {
    private Rows() {
    }

    static void due(String what, TrenchMerge x, int desk, int thing, String want) {
        Check.due(what, want, () -> values(x, desk, thing));
    }

    private static String values(TrenchMerge x, int desk, int thing) {
        StringBuilder row = new StringBuilder();
        int k = 0;
        while (x.place(desk, thing, k) != TrenchMerge.NONE) {
            row.append(k == 0 ? "" : " ").append(x.at(desk, thing, 3, k));
            k++;
        }
        Check.due("value behind the row's end", TrenchMerge.NONE, beyond(x, desk, thing, k));
        return row.toString();
    }

    private static Check.Call beyond(TrenchMerge x, int desk, int thing, int k) {
        return () -> x.at(desk, thing, 3, k);
    }
}
