import java.util.Arrays;
import java.util.Random;

/** All promises: long mixed runs, refused calls among them, held against PlainDesks call by call. */
public final class MixedRunsTest {
    private static final int RUNS = 300;
    private static final int CALLS = 512;
    private static final String[] NAMES = {
        "tell", "tell", "tell", "insert", "insert", "insert", "remove", "relate", "relate", "relate",
        "drop", "join", "join", "join", "join", "number", "at", "at", "at", "at", "place", "place",
        "order", "order", "open", "open", "knows", "equal", "compact", "about", "about", "count"};

    private final Random random;
    private final TrenchMerge desks = new TrenchMerge();
    private final PlainDesks plain = new PlainDesks();
    private final int things;
    private final int contexts;
    private final int wrongInAHundred;

    private MixedRunsTest(int seed) {
        random = new Random(seed);
        things = 1 + random.nextInt(4);
        contexts = 2 + random.nextInt(8);
        wrongInAHundred = random.nextInt(6);
    }

    public static void main(String[] args) {
        for (int seed = 0; seed < RUNS; seed++) {
            new MixedRunsTest(seed).run(seed);
        }
        Check.finish();
    }

    private void run(int seed) {
        for (int i = 0; i < CALLS; i++) {
            String name = NAMES[random.nextInt(NAMES.length)];
            int[] a = arguments(name);
            String want = Check.answer(() -> plain.call(name, a));
            String got = Check.answer(() -> call(name, a));
            Check.same("run " + seed + ", call " + i + ", " + name + Arrays.toString(a), want, got);
        }
    }

    private int upTo(int bound) {
        if (random.nextInt(100) < wrongInAHundred) {
            int[] wrong = {-1, -2, bound, Integer.MIN_VALUE, Integer.MAX_VALUE};
            return wrong[random.nextInt(wrong.length)];
        }
        return random.nextInt(bound);
    }

    private int desk() {
        return upTo(6);
    }

    private int thing() {
        return random.nextInt(50) == 0 ? upTo(16) : random.nextInt(things);
    }

    private int context() {
        return random.nextInt(20) == 0 ? upTo(16) : random.nextInt(contexts);
    }

    private int telling() {
        return upTo(Math.max(1, plain.made()));
    }

    private int behind() {
        return random.nextInt(3) == 0 ? TrenchMerge.NONE : telling();
    }

    private int[] arguments(String name) {
        switch (name) {
            case "tell": {
                int field = upTo(3);
                return new int[] {desk(), thing(), field, upTo(field == 2 ? 32 : 1000)};
            }
            case "insert": return new int[] {desk(), thing(), behind(), upTo(1000)};
            case "relate":
            case "order": return new int[] {desk(), context(), context()};
            case "join":
            case "equal": return new int[] {desk(), desk()};
            case "number": return new int[] {desk()};
            case "at": return new int[] {desk(), thing(), upTo(4), upTo(1 + random.nextInt(12))};
            case "place": return new int[] {desk(), thing(), upTo(1 + random.nextInt(12))};
            case "open": return new int[] {desk(), upTo(3)};
            case "about": return new int[] {desk(), telling(), upTo(4)};
            case "count": return new int[] {upTo(3)};
            case "compact": return new int[0];
            default: return new int[] {desk(), telling()};
        }
    }

    private Object call(String name, int[] a) {
        switch (name) {
            case "tell": return desks.tell(a[0], a[1], a[2], a[3]);
            case "insert": return desks.insert(a[0], a[1], a[2], a[3]);
            case "remove": return desks.remove(a[0], a[1]);
            case "relate": return desks.relate(a[0], a[1], a[2]);
            case "drop": return desks.drop(a[0], a[1]);
            case "join": return desks.join(a[0], a[1]);
            case "number": return desks.number(a[0]);
            case "at": return desks.at(a[0], a[1], a[2], a[3]);
            case "place": return desks.place(a[0], a[1], a[2]);
            case "order": return desks.order(a[0], a[1], a[2]);
            case "open": return desks.open(a[0], a[1]);
            case "knows": return desks.knows(a[0], a[1]);
            case "equal": return desks.equal(a[0], a[1]);
            case "compact": return desks.compact();
            case "about": return desks.about(a[0], a[1], a[2]);
            default: return desks.count(a[0]);
        }
    }
}
