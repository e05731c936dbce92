import java.util.Random;
import java.util.concurrent.Callable;

/** Long runs of calls, the same ones each time, on a FamilyShelf and on the document's words beside it. */
public final class ReferenceTest {
    private static final int RUNS = 400;
    /** The document promises no more for one object. */
    private static final int CALLS = 512;

    private final Checks checks;
    private final Random random;
    private final int run;
    private final FamilyShelf real = new FamilyShelf();
    private final NaiveShelf naive = new NaiveShelf();
    /** Small numbers keep the sets of a run among few elements, where they meet one another more often. */
    private final int elements;
    private final boolean wrongInputs;
    private int calls;

    private ReferenceTest(Checks checks, int run) {
        this.checks = checks;
        this.run = run;
        random = new Random(run);
        elements = run % 3 == 0 ? 12 : 4 + random.nextInt(9);
        wrongInputs = run % 2 == 0;
    }

    public static void main(String[] args) {
        Checks checks = new Checks();
        for (int run = 1; run <= RUNS; run++) {
            new ReferenceTest(checks, run).go();
        }
        checks.end("ReferenceTest");
    }

    private void go() {
        while (calls < CALLS) {
            oneCall(random.nextInt(28));
        }
    }

    private void oneCall(int kind) {
        int shelf = shelf();
        int f = shelf();
        int g = shelf();
        switch (kind) {
            case 0, 1, 2, 3, 4 -> { int a = set(); same("put " + shelf + " " + a, () -> real.put(shelf, a), () -> naive.put(shelf, a)); }
            case 5 -> { int a = set(); same("take " + shelf + " " + a, () -> real.take(shelf, a), () -> naive.take(shelf, a)); }
            case 6 -> { if (random.nextInt(4) == 0) same("clear " + shelf, () -> real.clear(shelf), () -> naive.clear(shelf)); }
            case 7, 8, 9, 10, 11, 12 -> {
                int how = number(0, 8);
                same("combine " + shelf + " " + how + " " + f + " " + g, () -> real.combine(shelf, how, f, g), () -> naive.combine(shelf, how, f, g));
            }
            case 13, 14 -> {
                int how = number(0, 2);
                int e = number(0, 11);
                same("change " + shelf + " " + how + " " + f + " " + e, () -> real.change(shelf, how, f, e), () -> naive.change(shelf, how, f, e));
            }
            case 15 -> { boolean b = random.nextBoolean(); same("extreme " + shelf + " " + f + " " + b, () -> real.extreme(shelf, f, b), () -> naive.extreme(shelf, f, b)); }
            case 16 -> { int n = number(0, 12); same("sized " + shelf + " " + f + " " + n, () -> real.sized(shelf, f, n), () -> naive.sized(shelf, f, n)); }
            case 17 -> { int e = number(0, 11); same("cut " + e, () -> real.cut(e), () -> naive.cut(e)); }
            case 18 -> { int s = number(0, 6); int t = number(0, 6); same("paths " + shelf + " " + s + " " + t, () -> real.paths(shelf, s, t), () -> naive.paths(shelf, s, t)); }
            case 19 -> same("matchings " + shelf, () -> real.matchings(shelf), () -> naive.matchings(shelf));
            case 20, 21 -> { int e = number(0, 11); int w = number(-99, 99); same("weight " + e + " " + w, () -> real.weight(e, w), () -> naive.weight(e, w)); }
            case 22, 23, 24 -> edge();
            default -> look(shelf);
        }
    }

    private void edge() {
        int e = number(0, 11);
        int u = number(0, 6);
        int v = number(0, 6);
        same("edge " + e + " " + u + " " + v, () -> { real.edge(e, u, v); return 0; }, () -> { naive.edge(e, u, v); return 0; });
    }

    private void look(int shelf) {
        int a = set();
        int i = number(-1, 40) * (random.nextBoolean() ? 1 : 50);
        same("count " + shelf, () -> real.count(shelf), () -> naive.count(shelf));
        same("has " + shelf + " " + a, () -> real.has(shelf, a), () -> naive.has(shelf, a));
        same("nth " + shelf + " " + i, () -> real.nth(shelf, i), () -> naive.nth(shelf, i));
        same("rank " + shelf + " " + a, () -> real.rank(shelf, a), () -> naive.rank(shelf, a));
        same("heaviest " + shelf, () -> real.heaviest(shelf), () -> naive.heaviest(shelf));
        same("parts " + shelf, () -> real.parts(shelf), () -> naive.parts(shelf));
        same("size " + shelf, () -> real.size(shelf), () -> naive.size(shelf));
    }

    private void same(String call, Callable<?> got, Callable<?> want) {
        if (calls == CALLS) {
            return;
        }
        calls++;
        checks.due("run " + run + ": " + call, Checks.answerOf(got), Checks.answerOf(want));
    }

    private int shelf() {
        return number(0, 9);
    }

    private int set() {
        int below = 1 << elements;
        int a = random.nextInt(below);
        if (elements < 12 && random.nextBoolean()) {
            a <<= 12 - elements;
        }
        return wrongInputs && random.nextInt(40) == 0 ? outside(0, 4095) : a;
    }

    private int number(int least, int greatest) {
        if (wrongInputs && random.nextInt(40) == 0) {
            return outside(least, greatest);
        }
        return least + random.nextInt(greatest - least + 1);
    }

    private int outside(int least, int greatest) {
        int[] choices = {least - 1, greatest + 1, Integer.MIN_VALUE, Integer.MAX_VALUE};
        return choices[random.nextInt(choices.length)];
    }
}
