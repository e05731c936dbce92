import java.util.Arrays;
import java.util.NoSuchElementException;
import java.util.stream.IntStream;

/**
 * Every refused call that the document names: the numbers next to the least and the greatest that are allowed, and far
 * ones; which exception comes where several fit; and after each one, that nothing has changed.
 */
public final class RefusedTest {
    private static final Class<IndexOutOfBoundsException> INDEX = IndexOutOfBoundsException.class;
    private static final Class<IllegalArgumentException> ARGUMENT = IllegalArgumentException.class;
    private static final Class<ArithmeticException> ARITHMETIC = ArithmeticException.class;
    private static final Class<NoSuchElementException> NO_SUCH = NoSuchElementException.class;

    private static final int MIN = Integer.MIN_VALUE;
    private static final int MAX = Integer.MAX_VALUE;

    // Beside the nearest wrong numbers stand some that a shift, a mask or a narrower type would take for allowed ones.
    private static final int[] NO_SHELF = {-1, 10, 16, 256, 65536, -10, MIN, MIN + 1, MAX};
    private static final int[] NO_ELEMENT = {-1, 12, 16, 32, 64, 256, 65536, -12, MIN, MIN + 1, MAX};
    private static final int[] NO_VERTEX = {-1, 7, 8, 32, 64, 256, 65536, -7, MIN, MIN + 1, MAX};
    private static final int[] NO_SET = {-1, 4096, 4097, 8191, 65536, -4095, -4096, MIN, MIN + 1, MAX};
    private static final int[] NO_COMBINE = {-1, 9, 16, 256, 65536, -8, MIN, MAX};
    private static final int[] NO_CHANGE = {-1, 3, 4, 256, 65536, -2, MIN, MAX};
    private static final int[] NO_SIZE = {-1, 13, 64, 256, 65536, -12, MIN, MAX};
    private static final int[] NO_WEIGHT = {-100, 100, 256, 65536, MIN, MIN + 99, MAX};

    // What the prepared object has: of its shelves, 3 has no sets and 4 has all.
    private static final int[] SHELF = {0, 3, 4, 9};
    private static final int[] SHELF_WITH_SETS = {0, 1, 2, 4, 5, 6, 7, 8, 9};
    private static final int[] ELEMENT = {0, 11};
    private static final int[] VERTEX = {0, 6};
    private static final int[] SET = {0, 4095};

    private final Checks checks = new Checks();
    private final String untouched = prepared("untouched").state();

    public static void main(String[] args) {
        RefusedTest test = new RefusedTest();
        test.everyChangeIsSeen();
        test.put();
        test.take();
        test.clear();
        test.combineIndex();
        test.combineHow();
        test.combineDivisor();
        test.change();
        test.extreme();
        test.sized();
        test.edge();
        test.cut();
        test.paths();
        test.matchings();
        test.weight();
        test.count();
        test.has();
        test.nth();
        test.rank();
        test.heaviest();
        test.size();
        test.parts();
        test.aRowOfRefusedCalls();
        test.checks.end("RefusedTest");
    }

    private Run prepared(String sentence) {
        Run run = new Run(checks, sentence);
        run.putsAll(4, 5);
        run.puts(0, 0).puts(1, 4095).puts(2, 1, 2, 3).puts(5, 5, 6, 9, 10, 8).puts(6, 4, 8);
        run.puts(7, 0, 4095).puts(8, 2048, 1, 2049).puts(9, 64, 32, 4032);
        for (int e = 0; e < 11; e++) {
            run.make("edge", e, e % 7, (e + 1 + e / 7) % 7);
        }
        for (int e = 0; e < 12; e++) {
            run.make("weight", e, 9 * e - 50);
        }
        return run;
    }

    /** For every choice of numbers, one from each row: the call throws, and a new object is as it was before. */
    private void refused(Class<? extends Exception> due, String sentence, String name, int[]... rows) {
        int[] numbers = new int[rows.length];
        refusedFrom(due, sentence, name, rows, numbers, 0);
    }

    private void refusedFrom(Class<? extends Exception> due, String sentence, String name, int[][] rows, int[] numbers, int at) {
        if (at == rows.length) {
            Run run = prepared(sentence).dueThrow(due, name, numbers);
            checks.due(sentence + ": after " + name + Arrays.toString(numbers), run.state(), untouched);
            return;
        }
        for (int number : rows[at]) {
            numbers[at] = number;
            refusedFrom(due, sentence, name, rows, numbers, at + 1);
        }
    }

    private static int[] both(int[] some, int[] others) {
        return IntStream.concat(IntStream.of(some), IntStream.of(others)).toArray();
    }

    private static int[] only(int... numbers) {
        return numbers;
    }

    /** Of each kind of change, one is made: otherwise 'nothing has changed' would say little. */
    private void everyChangeIsSeen() {
        seen("put", 3, 0);
        seen("put", 9, 4095);
        seen("take", 4, 17);
        seen("take", 0, 0);
        seen("clear", 8);
        seen("combine", 3, 0, 0, 0);
        seen("change", 9, 2, 9, 11);
        seen("extreme", 7, 7, 1);
        seen("sized", 2, 2, 1);
        seen("edge", 11, 0, 6);
        seen("edge", 0, 0, 6);
        seen("cut", 10);
        seen("paths", 3, 6, 6);
        seen("matchings", 4);
        seen("weight", 0, 99);
        seen("weight", 11, -99);
    }

    private void seen(String name, int... numbers) {
        String state = prepared("a change is seen").make(name, numbers).state();
        checks.due("the state after " + name + " is as before", state.equals(untouched), false);
    }

    private void put() {
        refused(INDEX, "2 put: IndexOutOfBoundsException", "put", NO_SHELF, SET);
        refused(INDEX, "2 put: both fit, the first is thrown", "put", NO_SHELF, NO_SET);
        refused(ARGUMENT, "2 put: set is no number of one", "put", SHELF, NO_SET);
    }

    private void take() {
        refused(INDEX, "3 take: IndexOutOfBoundsException", "take", NO_SHELF, SET);
        refused(INDEX, "3 take: both fit, the first is thrown", "take", NO_SHELF, NO_SET);
        refused(ARGUMENT, "3 take: set is no number of one", "take", SHELF, NO_SET);
    }

    private void clear() {
        refused(INDEX, "4 clear: IndexOutOfBoundsException", "clear", NO_SHELF);
    }

    private void combineIndex() {
        int[] how = {-1, 0, 3, 7, 8, 9};
        int[] shelf = {0, 3, -1, 10};
        refused(INDEX, "5 combine: no such shelf to", "combine", NO_SHELF, how, shelf, shelf);
        refused(INDEX, "5 combine: no such shelf f", "combine", shelf, how, NO_SHELF, shelf);
        refused(INDEX, "5 combine: no such shelf g", "combine", shelf, how, shelf, NO_SHELF);
    }

    private void combineHow() {
        refused(ARGUMENT, "5 combine: how is not 0 .. 8", "combine", SHELF, NO_COMBINE, SHELF, SHELF);
    }

    private void combineDivisor() {
        refused(ARITHMETIC, "5 combine: how is 7 or 8, and g has no sets", "combine", SHELF, only(7, 8), SHELF, only(3));
        Run run = prepared("5 combine: how is 0 .. 6, and g has no sets");
        for (int how = 0; how <= 6; how++) {
            run.make("combine", 9, how, 4, 3).make("combine", 9, how, 3, 3);
        }
        run.due(0, "combine", 9, 7, 3, 0).due(0, "combine", 9, 8, 3, 0);
    }

    private void change() {
        int[] how = both(only(0, 2), only(-1, 3));
        int[] e = both(ELEMENT, only(-1, 12));
        int[] shelf = {0, 3, -1, 10};
        refused(INDEX, "6 change: no such shelf to", "change", NO_SHELF, how, shelf, e);
        refused(INDEX, "6 change: no such shelf f", "change", shelf, how, NO_SHELF, e);
        refused(INDEX, "6 change: no such element", "change", shelf, how, shelf, NO_ELEMENT);
        refused(ARGUMENT, "6 change: how is not 0 .. 2", "change", SHELF, NO_CHANGE, SHELF, ELEMENT);
    }

    private void extreme() {
        int[] shelf = both(SHELF, only(-1, 10));
        refused(INDEX, "7 extreme: no such shelf to", "extreme", NO_SHELF, shelf, only(0, 1));
        refused(INDEX, "7 extreme: no such shelf f", "extreme", shelf, NO_SHELF, only(0, 1));
    }

    private void sized() {
        int[] shelf = both(SHELF, only(-1, 10));
        int[] n = both(only(0, 12), NO_SIZE);
        refused(INDEX, "8 sized: no such shelf to", "sized", NO_SHELF, shelf, n);
        refused(INDEX, "8 sized: no such shelf f", "sized", shelf, NO_SHELF, n);
        refused(ARGUMENT, "8 sized: n is not 0 .. 12", "sized", SHELF, SHELF, NO_SIZE);
    }

    private void edge() {
        int[] vertex = both(VERTEX, NO_VERTEX);
        refused(INDEX, "9 edge: no such element", "edge", NO_ELEMENT, vertex, vertex);
        refused(INDEX, "9 edge: no such vertex u", "edge", ELEMENT, NO_VERTEX, vertex);
        refused(INDEX, "9 edge: no such vertex v", "edge", ELEMENT, vertex, NO_VERTEX);
        for (int v = 0; v < 7; v++) {
            refused(ARGUMENT, "9 edge: u is v", "edge", ELEMENT, only(v), only(v));
        }
    }

    private void cut() {
        refused(INDEX, "10 cut: IndexOutOfBoundsException", "cut", NO_ELEMENT);
    }

    private void paths() {
        int[] vertex = both(VERTEX, NO_VERTEX);
        refused(INDEX, "11 paths: no such shelf", "paths", NO_SHELF, vertex, vertex);
        refused(INDEX, "11 paths: no such vertex s", "paths", SHELF, NO_VERTEX, vertex);
        refused(INDEX, "11 paths: no such vertex t", "paths", SHELF, vertex, NO_VERTEX);
    }

    private void matchings() {
        refused(INDEX, "12 matchings: IndexOutOfBoundsException", "matchings", NO_SHELF);
    }

    private void weight() {
        refused(INDEX, "13 weight: IndexOutOfBoundsException", "weight", NO_ELEMENT, only(-99, 0, 99));
        refused(INDEX, "13 weight: both fit, the first is thrown", "weight", NO_ELEMENT, NO_WEIGHT);
        refused(ARGUMENT, "13 weight: weight is not -99 .. 99", "weight", ELEMENT, NO_WEIGHT);
    }

    private void count() {
        refused(INDEX, "14 count: IndexOutOfBoundsException", "count", NO_SHELF);
    }

    private void has() {
        refused(INDEX, "15 has: IndexOutOfBoundsException", "has", NO_SHELF, SET);
        refused(INDEX, "15 has: both fit, the first is thrown", "has", NO_SHELF, NO_SET);
        refused(ARGUMENT, "15 has: set is no number of one", "has", SHELF, NO_SET);
    }

    /** IndexOutOfBoundsException is for shelves, elements and vertices: no i is refused. */
    private void nth() {
        refused(INDEX, "16 nth: IndexOutOfBoundsException", "nth", NO_SHELF, only(-1, 0, 4095, 4096, MIN, MAX));
        for (int i : new int[] {-1, -2, -4096, MIN, MIN + 1, 4096, 4097, 65536, MAX}) {
            for (int shelf = 0; shelf < 10; shelf++) {
                prepared("16 nth: NONE when it has not so many").due(-1, "nth", shelf, i);
            }
        }
    }

    private void rank() {
        refused(INDEX, "17 rank: IndexOutOfBoundsException", "rank", NO_SHELF, SET);
        refused(INDEX, "17 rank: both fit, the first is thrown", "rank", NO_SHELF, NO_SET);
        refused(ARGUMENT, "17 rank: set is no number of one", "rank", SHELF, NO_SET);
    }

    private void heaviest() {
        refused(INDEX, "18 heaviest: IndexOutOfBoundsException", "heaviest", NO_SHELF);
        refused(NO_SUCH, "18 heaviest: it has no sets", "heaviest", only(3));
        for (int shelf : SHELF_WITH_SETS) {
            prepared("18 heaviest: it has sets").make("heaviest", shelf);
        }
    }

    private void size() {
        refused(INDEX, "19 size: IndexOutOfBoundsException", "size", NO_SHELF);
    }

    private void parts() {
        refused(INDEX, "20 parts: IndexOutOfBoundsException", "parts", NO_SHELF);
    }

    /** One object, one refused call of each kind behind the other. */
    private void aRowOfRefusedCalls() {
        Run run = prepared("a call that throws changes nothing");
        run.dueThrow(INDEX, "put", 10, 1).dueThrow(ARGUMENT, "put", 3, 4096);
        run.dueThrow(INDEX, "take", -1, 0).dueThrow(ARGUMENT, "take", 0, -1);
        run.dueThrow(INDEX, "clear", 10);
        run.dueThrow(INDEX, "combine", 10, 0, 0, 1).dueThrow(ARGUMENT, "combine", 2, 9, 0, 1);
        run.dueThrow(ARITHMETIC, "combine", 2, 7, 4, 3).dueThrow(ARITHMETIC, "combine", 3, 8, 3, 3);
        run.dueThrow(INDEX, "change", 2, 0, 2, 12).dueThrow(ARGUMENT, "change", 2, 3, 2, 0);
        run.dueThrow(INDEX, "extreme", 2, 10, 1);
        run.dueThrow(INDEX, "sized", 2, -1, 0).dueThrow(ARGUMENT, "sized", 2, 2, 13);
        run.dueThrow(INDEX, "edge", 11, 0, 7).dueThrow(ARGUMENT, "edge", 0, 3, 3);
        run.dueThrow(INDEX, "cut", 12);
        run.dueThrow(INDEX, "paths", 2, 0, 7);
        run.dueThrow(INDEX, "matchings", 10);
        run.dueThrow(INDEX, "weight", 12, 1).dueThrow(ARGUMENT, "weight", 0, 100);
        run.dueThrow(INDEX, "count", 10);
        run.dueThrow(INDEX, "has", 10, 0).dueThrow(ARGUMENT, "has", 0, 4096);
        run.dueThrow(INDEX, "nth", 10, 0);
        run.dueThrow(INDEX, "rank", 10, 0).dueThrow(ARGUMENT, "rank", 0, 4096);
        run.dueThrow(INDEX, "heaviest", 10).dueThrow(NO_SUCH, "heaviest", 3);
        run.dueThrow(INDEX, "size", 10);
        run.dueThrow(INDEX, "parts", 10);
        checks.due("a call that throws changes nothing: after a row of them", run.state(), untouched);
    }
}
