import java.util.function.Function;
import java.util.function.Supplier;

/**
 * All that an object can be asked, as one text. An object is promised for 512 calls alone, so each
 * is asked some of the questions, and the next ones go to another object that was made alike.
 */
final class Snapshot {
    private static final int QUESTIONS = 250;
    private static final String NONE = String.valueOf(TrenchMerge.NONE);

    private final Supplier<TrenchMerge> maker;
    private final StringBuilder text = new StringBuilder();
    private TrenchMerge asked;
    private int questions;

    private Snapshot(Supplier<TrenchMerge> maker) {
        this.maker = maker;
        this.asked = maker.get();
    }

    static String of(Supplier<TrenchMerge> maker) {
        Snapshot s = new Snapshot(maker);
        int made = Integer.parseInt(s.ask(x -> x.count(0)));
        s.ask(x -> x.count(1));
        s.ask(x -> x.count(2));
        for (int desk = 0; desk < 6; desk++) {
            s.askAboutTellings(desk, made);
            s.askAboutThings(desk);
            s.askAboutContexts(desk);
            s.askWhatComesNext(desk);
        }
        return s.text.toString();
    }

    private String ask(Function<TrenchMerge, Object> question) {
        if (questions >= QUESTIONS) {
            asked = maker.get();
            questions = 0;
        }
        questions++;
        TrenchMerge x = asked;
        String answer = Check.answer(() -> question.apply(x));
        text.append(answer).append(' ');
        return answer;
    }

    private void askAboutTellings(int desk, int made) {
        for (int t = 0; t < made; t++) {
            int telling = t;
            if (ask(x -> x.knows(desk, telling)).equals("true")) {
                for (int w = 0; w < 4; w++) {
                    int what = w;
                    ask(x -> x.about(desk, telling, what));
                }
            }
        }
        for (int o = 0; o < 6; o++) {
            int other = o;
            ask(x -> x.equal(desk, other));
        }
    }

    private void askAboutThings(int desk) {
        for (int t = 0; t < 16; t++) {
            int thing = t;
            for (int f = 0; f < 4; f++) {
                int field = f;
                askUpToNone((x, k) -> x.at(desk, thing, field, k));
            }
            askUpToNone((x, k) -> x.place(desk, thing, k));
        }
    }

    private void askAboutContexts(int desk) {
        for (int i = 0; i < 16; i++) {
            for (int j = i; j < 16; j++) {
                int a = i;
                int b = j;
                ask(x -> x.order(desk, a, b));
            }
        }
        askUpToNone((x, k) -> x.open(desk, k));
    }

    /** These change the object, so no other question goes to it. */
    private void askWhatComesNext(int desk) {
        questions = QUESTIONS;
        ask(x -> x.number(desk));
        ask(x -> x.tell(desk, 0, 0, 1));
        ask(x -> x.about(desk, x.count(0) - 1, 0));
        for (int other = 0; other < 6; other++) {
            int from = other;
            ask(x -> x.join(desk, from));
        }
        ask(x -> x.compact());
        questions = QUESTIONS;
        ask(x -> x.compact());
        questions = QUESTIONS;
    }

    /** A question with a k. */
    private interface Kth {
        int ask(TrenchMerge x, int k);
    }

    private void askUpToNone(Kth question) {
        String answer = "";
        for (int i = 0; i <= States.ALL && !answer.equals(NONE); i++) {
            int k = i;
            answer = ask(x -> question.ask(x, k));
        }
    }
}
