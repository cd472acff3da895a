import java.util.ArrayList;
import java.util.Comparator;
import java.util.List;
import java.util.NoSuchElementException;
import java.util.TreeSet;

/**
 * The document's terms, written down as directly as they can be and without a thought for speed: a
 * second opinion to hold TrenchMerge against. Each desk has a set of its own, rows are trees that
 * are walked anew, and rings are looked for from context to context.
 */
final class PlainDesks {
    record Telling(int id, int stamp, int desk, int sort, int thing, int value, int behind) {
    }

    private static final Comparator<Telling> BY_RANK =
            Comparator.comparingInt(Telling::stamp).thenComparingInt(Telling::desk);

    private final List<Telling> all = new ArrayList<>();
    private final List<TreeSet<Integer>> known = new ArrayList<>();
    private final TreeSet<Integer> forgotten = new TreeSet<>();
    private final int[] numbers = new int[6];

    PlainDesks() {
        for (int desk = 0; desk < 6; desk++) {
            known.add(new TreeSet<>());
        }
    }

    int made() {
        return all.size();
    }

    /** The call of the face with this name. */
    Object call(String name, int[] a) {
        switch (name) {
            case "tell": return tell(a[0], a[1], a[2], a[3]);
            case "insert": return insert(a[0], a[1], a[2], a[3]);
            case "remove": return end(a[0], a[1], 3, 4);
            case "relate": return relate(a[0], a[1], a[2]);
            case "drop": return end(a[0], a[1], 5, 6);
            case "join": return join(a[0], a[1]);
            case "number": return number(a[0]);
            case "at": return at(a[0], a[1], a[2], a[3]);
            case "place": return place(a[0], a[1], a[2]);
            case "order": return order(a[0], a[1], a[2]);
            case "open": return open(a[0], a[1]);
            case "knows": return knows(a[0], a[1]);
            case "equal": return equal(a[0], a[1]);
            case "compact": return compact();
            case "about": return about(a[0], a[1], a[2]);
            default: return count(a[0]);
        }
    }

    private static void need(boolean there) {
        if (!there) {
            throw new NoSuchElementException();
        }
    }

    private static void allow(boolean right) {
        if (!right) {
            throw new IllegalArgumentException();
        }
    }

    private static void within(int value, int bound) {
        need(value >= 0 && value < bound);
    }

    private Telling known(int desk, int telling) {
        need(known.get(desk).contains(telling));
        return all.get(telling);
    }

    private List<Telling> knownByRank(int desk) {
        List<Telling> list = new ArrayList<>();
        for (int id : known.get(desk)) {
            list.add(all.get(id));
        }
        list.sort(BY_RANK);
        return list;
    }

    private int make(int desk, int sort, int thing, int value, int behind) {
        if (all.size() == 120) {
            throw new IllegalStateException();
        }
        int stamp = 1;
        for (Telling t : knownByRank(desk)) {
            stamp = Math.max(stamp, t.stamp() + 1);
        }
        all.add(new Telling(all.size(), stamp, desk, sort, thing, value, behind));
        known.get(desk).add(all.size() - 1);
        return all.size() - 1;
    }

    private int tell(int desk, int thing, int field, int v) {
        within(desk, 6);
        within(thing, 16);
        within(field, 3);
        allow(v >= 0 && v <= (field == 2 ? 31 : 999));
        return make(desk, field, thing, v, -1);
    }

    private int insert(int desk, int thing, int behind, int v) {
        within(desk, 6);
        within(thing, 16);
        if (behind != -1) {
            Telling t = known(desk, behind);
            allow(t.sort() == 3 && t.thing() == thing);
        }
        allow(v >= 0 && v <= 999);
        return make(desk, 3, thing, v, behind);
    }

    private int end(int desk, int telling, int sort, int endingSort) {
        within(desk, 6);
        allow(known(desk, telling).sort() == sort);
        return make(desk, endingSort, -1, telling, -1);
    }

    private int relate(int desk, int a, int b) {
        within(desk, 6);
        within(a, 16);
        within(b, 16);
        allow(a != b);
        return make(desk, 5, -1, 16 * a + b, -1);
    }

    private int join(int desk, int other) {
        within(desk, 6);
        within(other, 6);
        int before = known.get(desk).size();
        known.get(desk).addAll(new TreeSet<>(known.get(other)));
        return known.get(desk).size() - before;
    }

    private int number(int desk) {
        within(desk, 6);
        if (numbers[desk] == 1000) {
            throw new IllegalStateException();
        }
        return 1000 * desk + numbers[desk]++;
    }

    private static int pick(List<Integer> values, int k) {
        return k < values.size() ? values.get(k) : -1;
    }

    private int at(int desk, int thing, int field, int k) {
        within(desk, 6);
        within(thing, 16);
        within(field, 4);
        need(k >= 0);
        if (field == 3) {
            int telling = place(desk, thing, k);
            return telling == -1 ? -1 : all.get(telling).value();
        }
        List<Integer> values = new ArrayList<>();
        for (Telling t : knownByRank(desk)) {
            if (t.sort() == field && t.thing() == thing) {
                values.add(t.value());
            }
        }
        if (field == 2) {
            return pick(new ArrayList<>(new TreeSet<>(values)), k);
        }
        if (k > 0) {
            return -1;
        }
        if (field == 1) {
            return values.stream().mapToInt(Integer::intValue).sum();
        }
        return values.isEmpty() ? -1 : values.get(values.size() - 1);
    }

    private boolean isEnded(int desk, int telling, int endingSort) {
        for (Telling t : knownByRank(desk)) {
            if (t.sort() == endingSort && t.value() == telling) {
                return true;
            }
        }
        return false;
    }

    private void walkRow(int desk, int thing, int behind, List<Integer> row) {
        List<Telling> siblings = knownByRank(desk);
        siblings.removeIf(t -> t.sort() != 3 || t.thing() != thing || t.behind() != behind);
        siblings.sort(BY_RANK.reversed());
        for (Telling t : siblings) {
            if (!isEnded(desk, t.id(), 4)) {
                row.add(t.id());
            }
            walkRow(desk, thing, t.id(), row);
        }
    }

    private int place(int desk, int thing, int k) {
        within(desk, 6);
        within(thing, 16);
        need(k >= 0);
        List<Integer> row = new ArrayList<>();
        walkRow(desk, thing, -1, row);
        return pick(row, k);
    }

    private static boolean reaches(List<Telling> relations, int from, int to, int steps) {
        if (steps == 0) {
            return false;
        }
        for (Telling t : relations) {
            int a = t.value() / 16;
            int b = t.value() % 16;
            if (a == from && (b == to || reaches(relations, b, to, steps - 1))) {
                return true;
            }
        }
        return false;
    }

    /** Fills in the relations that hold, and answers those that stand open. */
    private List<Integer> settle(int desk, List<Telling> holding) {
        List<Integer> open = new ArrayList<>();
        for (Telling t : knownByRank(desk)) {
            if (t.sort() == 5 && !isEnded(desk, t.id(), 6)) {
                if (reaches(holding, t.value() % 16, t.value() / 16, 16)) {
                    open.add(t.id());
                } else {
                    holding.add(t);
                }
            }
        }
        return open;
    }

    private int order(int desk, int a, int b) {
        within(desk, 6);
        within(a, 16);
        within(b, 16);
        List<Telling> holding = new ArrayList<>();
        settle(desk, holding);
        return reaches(holding, a, b, 16) ? 1 : reaches(holding, b, a, 16) ? -1 : 0;
    }

    private int open(int desk, int k) {
        within(desk, 6);
        need(k >= 0);
        return pick(settle(desk, new ArrayList<>()), k);
    }

    private boolean knows(int desk, int telling) {
        within(desk, 6);
        within(telling, all.size());
        return known.get(desk).contains(telling);
    }

    private boolean equal(int one, int other) {
        within(one, 6);
        within(other, 6);
        return known.get(one).equals(known.get(other));
    }

    private int compact() {
        TreeSet<Integer> shared = new TreeSet<>(known.get(0));
        known.forEach(shared::retainAll);
        TreeSet<Integer> outdone = new TreeSet<>();
        for (int old : shared) {
            for (int other : shared) {
                Telling o = all.get(old);
                Telling t = all.get(other);
                if (o.sort() == 0 && t.sort() == 0 && o.thing() == t.thing()
                        && BY_RANK.compare(o, t) < 0) {
                    outdone.add(old);
                }
            }
        }
        known.forEach(desk -> desk.removeAll(outdone));
        forgotten.addAll(outdone);
        return outdone.size();
    }

    private int about(int desk, int telling, int what) {
        within(desk, 6);
        Telling t = known(desk, telling);
        allow(what >= 0 && what <= 3);
        return new int[] {t.stamp(), t.desk(), t.sort(), t.value()}[what];
    }

    private int count(int what) {
        allow(what >= 0 && what <= 2);
        if (what == 0) {
            return all.size();
        }
        if (what == 1) {
            return forgotten.size();
        }
        TreeSet<Integer> some = new TreeSet<>();
        known.forEach(some::addAll);
        TreeSet<Integer> shared = new TreeSet<>(some);
        known.forEach(shared::retainAll);
        return some.size() - shared.size();
    }
}
