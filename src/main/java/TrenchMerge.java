import java.util.NoSuchElementException;

/**
 * Desks that work apart and join what they were told; ../shared/DOC.md says what every call answers.
 *
 * <p>All tellings stand in one chain by rank, and each one carries a bit for every desk that knows
 * it. What a desk answers depends on that chain and its own bits alone, never on the order in which
 * it came to know things: so desks with equal knowledge give equal answers.
 */
public final class TrenchMerge {
    public static final int NONE = -1;

    private static final int DESKS = 6;
    private static final int ALL_DESKS = (1 << DESKS) - 1;
    private static final int TELLINGS = 120;
    private static final int THINGS = 16;
    private static final int CONTEXTS = 16;
    private static final int VALUES = 1000;
    private static final int UNION_VALUES = 32;
    private static final int NUMBERS = 1000;

    // The sorts of tellings; the first four are the fields' numbers, too.
    private static final int LATEST = 0;
    private static final int SUM = 1;
    private static final int UNION = 2;
    private static final int ROW = 3;
    private static final int REMOVAL = 4;
    private static final int RELATION = 5;
    private static final int DROPPING = 6;

    private final Telling[] tellings;
    private final Telling[] rows;
    private final int[] numbersGiven;
    private final Contexts contexts;
    private Telling earliest;
    private int made;

    public TrenchMerge() {
        tellings = new Telling[TELLINGS];
        rows = new Telling[THINGS];
        numbersGiven = new int[DESKS];
        contexts = new Contexts();
        earliest = null;
        made = 0;
    }

    public int tell(int desk, int thing, int field, int v)
            throws NoSuchElementException, IllegalArgumentException, IllegalStateException {
        requireDesk(desk);
        requireThing(thing);
        requireField(field, UNION);
        requireValue(v, field == UNION ? UNION_VALUES : VALUES);
        return enter(desk, field, thing, v).id;
    }

    public int insert(int desk, int thing, int behind, int v)
            throws NoSuchElementException, IllegalArgumentException, IllegalStateException {
        requireDesk(desk);
        requireThing(thing);
        Telling left = behind == NONE ? null : findKnown(desk, behind);
        if (left != null && (left.sort != ROW || left.thing != thing)) {
            throw new IllegalArgumentException("the telling is no place of this row");
        }
        requireValue(v, VALUES);
        Telling fresh = enter(desk, ROW, thing, v);
        putInRow(thing, left, fresh);
        return fresh.id;
    }

    public int remove(int desk, int telling)
            throws NoSuchElementException, IllegalArgumentException, IllegalStateException {
        return end(desk, telling, ROW, REMOVAL);
    }

    public int relate(int desk, int a, int b)
            throws NoSuchElementException, IllegalArgumentException, IllegalStateException {
        requireDesk(desk);
        requireContext(a);
        requireContext(b);
        if (a == b) {
            throw new IllegalArgumentException("a context is not above itself");
        }
        return enter(desk, RELATION, NONE, CONTEXTS * a + b).id;
    }

    public int drop(int desk, int telling)
            throws NoSuchElementException, IllegalArgumentException, IllegalStateException {
        return end(desk, telling, RELATION, DROPPING);
    }

    public int join(int desk, int other) throws NoSuchElementException {
        requireDesk(desk);
        requireDesk(other);
        int news = 0;
        for (Telling t = earliest; t != null; t = t.later) {
            if (t.isKnownAt(other) && !t.isKnownAt(desk)) {
                news++;
            }
            t.pass(other, desk);
        }
        return news;
    }

    public int number(int desk) throws NoSuchElementException, IllegalStateException {
        requireDesk(desk);
        int given = numbersGiven[desk];
        if (given >= NUMBERS) {
            throw new IllegalStateException("the desk has given all numbers of its block");
        }
        numbersGiven[desk] = given + 1;
        return NUMBERS * desk + given;
    }

    public int at(int desk, int thing, int field, int k) throws NoSuchElementException {
        requireDesk(desk);
        requireThing(thing);
        requireField(field, ROW);
        requireOrdinal(k);
        switch (field) {
            case LATEST:
                return k == 0 ? latestValue(desk, thing) : NONE;
            case SUM:
                return k == 0 ? sumOfValues(desk, thing) : NONE;
            case UNION:
                return memberOfUnion(desk, thing, k);
            default:
                Telling found = findInRow(desk, thing, k);
                return found == null ? NONE : found.value;
        }
    }

    public int place(int desk, int thing, int k) throws NoSuchElementException {
        requireDesk(desk);
        requireThing(thing);
        requireOrdinal(k);
        Telling found = findInRow(desk, thing, k);
        return found == null ? NONE : found.id;
    }

    public int order(int desk, int a, int b) throws NoSuchElementException {
        requireDesk(desk);
        requireContext(a);
        requireContext(b);
        takeRelations(desk);
        if (contexts.isOver(a, b)) {
            return 1;
        }
        return contexts.isOver(b, a) ? -1 : 0;
    }

    public int open(int desk, int k) throws NoSuchElementException {
        requireDesk(desk);
        requireOrdinal(k);
        takeRelations(desk);
        int before = 0;
        for (Telling t = earliest; t != null; t = t.later) {
            if (t.standsOpen) {
                if (before == k) {
                    return t.id;
                }
                before++;
            }
        }
        return NONE;
    }

    public boolean knows(int desk, int telling) throws NoSuchElementException {
        requireDesk(desk);
        return findMade(telling).isKnownAt(desk);
    }

    public boolean equal(int one, int other) throws NoSuchElementException {
        requireDesk(one);
        requireDesk(other);
        for (Telling t = earliest; t != null; t = t.later) {
            if (t.isKnownAt(one) != t.isKnownAt(other)) {
                return false;
            }
        }
        return true;
    }

    public int compact() {
        int forgotten = 0;
        for (Telling t = earliest; t != null; t = t.later) {
            if (isOutdone(t)) {
                t.forget();
                forgotten++;
            }
        }
        return forgotten;
    }

    public int about(int desk, int telling, int what)
            throws NoSuchElementException, IllegalArgumentException {
        requireDesk(desk);
        Telling found = findKnown(desk, telling);
        switch (what) {
            case 0:
                return found.stamp;
            case 1:
                return found.desk;
            case 2:
                return found.sort;
            case 3:
                return found.value;
            default:
                throw new IllegalArgumentException("nothing of this kind is told about a telling");
        }
    }

    public int count(int what) throws IllegalArgumentException {
        switch (what) {
            case 0:
                return made;
            case 1:
                return countForgotten();
            case 2:
                return countUnshared();
            default:
                throw new IllegalArgumentException("nothing of this kind is counted");
        }
    }

    private static void requireDesk(int desk) {
        if (desk < 0 || desk >= DESKS) {
            throw new NoSuchElementException("there is no such desk");
        }
    }

    private static void requireThing(int thing) {
        if (thing < 0 || thing >= THINGS) {
            throw new NoSuchElementException("there is no such thing");
        }
    }

    private static void requireField(int field, int last) {
        if (field < 0 || field > last) {
            throw new NoSuchElementException("there is no such field");
        }
    }

    private static void requireContext(int context) {
        if (context < 0 || context >= CONTEXTS) {
            throw new NoSuchElementException("there is no such context");
        }
    }

    private static void requireOrdinal(int k) {
        if (k < 0) {
            throw new NoSuchElementException("places are counted from 0");
        }
    }

    private static void requireValue(int v, int bound) {
        if (v < 0 || v >= bound) {
            throw new IllegalArgumentException("the value is out of its range");
        }
    }

    private Telling findMade(int telling) {
        Telling found = telling < 0 || telling >= made ? null : tellings[telling];
        if (found == null) {
            throw new NoSuchElementException("there is no such telling");
        }
        return found;
    }

    private Telling findKnown(int desk, int telling) {
        Telling found = findMade(telling);
        if (!found.isKnownAt(desk)) {
            throw new NoSuchElementException("the desk does not know the telling");
        }
        return found;
    }

    /** Its refusal is the last one in every call, so nothing has changed before it. */
    private Telling enter(int desk, int sort, int thing, int value) {
        if (made >= TELLINGS) {
            throw new IllegalStateException("no more tellings can be made");
        }
        Telling fresh = new Telling(made, desk, greatestStamp(desk) + 1, sort, thing, value);
        tellings[made] = fresh;
        made++;
        putByRank(fresh);
        return fresh;
    }

    private int end(int desk, int telling, int endedSort, int endingSort) {
        requireDesk(desk);
        Telling ended = findKnown(desk, telling);
        if (ended.sort != endedSort) {
            throw new IllegalArgumentException("the telling is of another sort");
        }
        Telling ending = enter(desk, endingSort, NONE, ended.id);
        ended.endAt(desk);
        return ending.id;
    }

    private int greatestStamp(int desk) {
        int greatest = 0;
        for (Telling t = earliest; t != null; t = t.later) {
            if (t.isKnownAt(desk)) {
                greatest = t.stamp;
            }
        }
        return greatest;
    }

    private void putByRank(Telling fresh) {
        Telling before = null;
        Telling after = earliest;
        while (after != null && fresh.isLaterThan(after)) {
            before = after;
            after = after.later;
        }
        fresh.later = after;
        if (before == null) {
            earliest = fresh;
        } else {
            before.later = fresh;
        }
    }

    /**
     * One row serves all desks: a desk that knows a place knows the one it stands behind, so leaving
     * out the unknown places gives that desk's own row. Every place has a higher rank than the one
     * it stands behind; hence the later places right of the left one are just those that go first,
     * each with all that stands behind it, and the first earlier one ends them.
     */
    private void putInRow(int thing, Telling behind, Telling fresh) {
        Telling left = behind;
        Telling right = behind == null ? rows[thing] : behind.nextInRow;
        while (right != null && right.isLaterThan(fresh)) {
            left = right;
            right = right.nextInRow;
        }
        fresh.nextInRow = right;
        if (left == null) {
            rows[thing] = fresh;
        } else {
            left.nextInRow = fresh;
        }
    }

    private Telling findInRow(int desk, int thing, int k) {
        int before = 0;
        for (Telling t = rows[thing]; t != null; t = t.nextInRow) {
            if (t.isKnownAt(desk) && !t.isEndedAt(desk)) {
                if (before == k) {
                    return t;
                }
                before++;
            }
        }
        return null;
    }

    private int latestValue(int desk, int thing) {
        int latest = NONE;
        for (Telling t = earliest; t != null; t = t.later) {
            if (t.isOfField(thing, LATEST) && t.isKnownAt(desk)) {
                latest = t.value;
            }
        }
        return latest;
    }

    private int sumOfValues(int desk, int thing) {
        int sum = 0;
        for (Telling t = earliest; t != null; t = t.later) {
            if (t.isOfField(thing, SUM) && t.isKnownAt(desk)) {
                sum += t.value;
            }
        }
        return sum;
    }

    private int memberOfUnion(int desk, int thing, int k) {
        int union = 0;
        for (Telling t = earliest; t != null; t = t.later) {
            if (t.isOfField(thing, UNION) && t.isKnownAt(desk)) {
                union |= 1 << t.value;
            }
        }
        int before = 0;
        for (int member = 0; member < UNION_VALUES; member++) {
            if ((union >>> member & 1) == 1) {
                if (before == k) {
                    return member;
                }
                before++;
            }
        }
        return NONE;
    }

    /** An open relation is not taken, so it closes no ring for those behind it. */
    private void takeRelations(int desk) {
        contexts.clear();
        for (Telling t = earliest; t != null; t = t.later) {
            boolean counts = t.sort == RELATION && t.isKnownAt(desk) && !t.isEndedAt(desk);
            t.standsOpen = counts && !contexts.take(t.value / CONTEXTS, t.value % CONTEXTS);
        }
    }

    private static boolean isOutdone(Telling old) {
        if (!isSharedLatest(old)) {
            return false;
        }
        for (Telling t = old.later; t != null; t = t.later) {
            if (isSharedLatest(t) && t.thing == old.thing) {
                return true;
            }
        }
        return false;
    }

    private static boolean isSharedLatest(Telling t) {
        return t.sort == LATEST && t.knownAt == ALL_DESKS;
    }

    private int countForgotten() {
        int forgotten = 0;
        for (Telling t = earliest; t != null; t = t.later) {
            if (t.isForgotten()) {
                forgotten++;
            }
        }
        return forgotten;
    }

    private int countUnshared() {
        int unshared = 0;
        for (Telling t = earliest; t != null; t = t.later) {
            if (!t.isForgotten() && t.knownAt != ALL_DESKS) {
                unshared++;
            }
        }
        return unshared;
    }

    private static final class Telling {
        final int id;
        final int desk;
        final int stamp;
        final int sort;
        final int thing;
        final int value;
        int knownAt;
        /** The desks that know a removal of this place or a dropping of this relation. */
        int endedAt;
        /** Holds for the desk whose relations were taken last. */
        boolean standsOpen;
        Telling later;
        Telling nextInRow;

        Telling(int id, int desk, int stamp, int sort, int thing, int value) {
            this.id = id;
            this.desk = desk;
            this.stamp = stamp;
            this.sort = sort;
            this.thing = thing;
            this.value = value;
            this.knownAt = 1 << desk;
            this.endedAt = 0;
            this.standsOpen = false;
            this.later = null;
            this.nextInRow = null;
        }

        boolean isLaterThan(Telling other) {
            return stamp != other.stamp ? stamp > other.stamp : desk > other.desk;
        }

        boolean isOfField(int ofThing, int field) {
            return thing == ofThing && sort == field;
        }

        boolean isKnownAt(int someDesk) {
            return (knownAt >> someDesk & 1) == 1;
        }

        boolean isEndedAt(int someDesk) {
            return (endedAt >> someDesk & 1) == 1;
        }

        void endAt(int someDesk) {
            endedAt |= 1 << someDesk;
        }

        /** What ended this telling is passed on in the same join, so both bits go together. */
        void pass(int from, int to) {
            knownAt |= (knownAt >> from & 1) << to;
            endedAt |= (endedAt >> from & 1) << to;
        }

        /** The desk that made a telling knows it till it is forgotten, so no other one is known nowhere. */
        boolean isForgotten() {
            return knownAt == 0;
        }

        void forget() {
            knownAt = 0;
        }
    }

    /** Which contexts are over which, kept closed over chains so that a ring shows in one look. */
    private static final class Contexts {
        private final int[] under;

        Contexts() {
            under = new int[CONTEXTS];
        }

        void clear() {
            for (int i = 0; i < under.length; i++) {
                under[i] = 0;
            }
        }

        boolean isOver(int a, int b) {
            return isContext(a) && (under[a] >> b & 1) == 1;
        }

        /** Answers false, and takes nothing, if the relation would close a ring. */
        boolean take(int a, int b) {
            if (!isContext(a) || !isContext(b) || a == b || isOver(b, a)) {
                return false;
            }
            int gained = under[b] | 1 << b;
            for (int c = 0; c < under.length; c++) {
                if (c == a || isOver(c, a)) {
                    under[c] |= gained;
                }
            }
            return true;
        }

        private static boolean isContext(int context) {
            return context >= 0 && context < CONTEXTS;
        }
    }
}
