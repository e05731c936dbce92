import java.util.NoSuchElementException;

/** Each promise by hand: ordinary inputs, the edges that the document names, and wrong inputs. */
public final class PromisesTest {
    private static final Class<IndexOutOfBoundsException> INDEX = IndexOutOfBoundsException.class;
    private static final Class<IllegalArgumentException> ARGUMENT = IllegalArgumentException.class;
    private static final Class<ArithmeticException> ARITHMETIC = ArithmeticException.class;
    private static final Class<NoSuchElementException> NO_SUCH = NoSuchElementException.class;

    private static final int[] NO_SHELVES = {-1, 10, Integer.MIN_VALUE, Integer.MAX_VALUE};
    private static final int[] NO_ELEMENTS = {-1, 12, Integer.MIN_VALUE, Integer.MAX_VALUE};
    private static final int[] NO_VERTICES = {-1, 7, Integer.MIN_VALUE, Integer.MAX_VALUE};
    private static final int[] NO_SETS = {-1, 4096, Integer.MIN_VALUE, Integer.MAX_VALUE};

    private final Checks checks = new Checks();

    public static void main(String[] args) {
        PromisesTest test = new PromisesTest();
        test.newObject();
        test.put();
        test.take();
        test.clear();
        test.combineSets();
        test.combinePairs();
        test.combineParts();
        test.combineDivided();
        test.combineSameShelves();
        test.combineWrong();
        test.change();
        test.extreme();
        test.sized();
        test.edgeAndCut();
        test.paths();
        test.matchings();
        test.weight();
        test.countAndHas();
        test.nthAndRank();
        test.heaviest();
        test.size();
        test.parts();
        test.throwingChangesNothing();
        test.dearestCalls();
        test.checks.end("PromisesTest");
    }

    private static FamilyShelf with(int... sets) {
        FamilyShelf x = new FamilyShelf();
        fill(x, 0, sets);
        return x;
    }

    private static void fill(FamilyShelf x, int shelf, int... sets) {
        for (int set : sets) {
            x.put(shelf, set);
        }
    }

    /** The shelf has these sets, in this order, and no others. */
    private void dueSets(String what, FamilyShelf x, int shelf, int... sets) {
        checks.due(what + ": count", x.count(shelf), sets.length);
        for (int i = 0; i < sets.length; i++) {
            checks.due(what + ": nth " + i, x.nth(shelf, i), sets[i]);
            checks.due(what + ": has " + sets[i], x.has(shelf, sets[i]), true);
        }
        checks.due(what + ": one more", x.nth(shelf, sets.length), FamilyShelf.NONE);
    }

    /** Shelves 2 and 3 get what f and g make, the sets that they had before being gone. */
    private void dueCombined(int how, int[] f, int[] g, int... sets) {
        FamilyShelf x = with(f);
        fill(x, 1, g);
        for (int to = 2; to <= 3; to++) {
            fill(x, to, 0, 4095, 17, 64);
            checks.due("combine " + how, x.combine(to, how, 0, 1), sets.length);
            dueSets("combine " + how, x, to, sets);
        }
        checks.due("combine " + how + " leaves f", x.count(0), f.length);
        checks.due("combine " + how + " leaves g", x.count(1), g.length);
    }

    private static int[] sets(int... sets) {
        return sets;
    }

    private static FamilyShelf allSets() {
        FamilyShelf x = with(0);
        for (int e = 0; e < 12; e++) {
            x.change(1, 2, 0, e);
            x.combine(0, 0, 0, 1);
        }
        return x;
    }

    private void newObject() {
        FamilyShelf x = new FamilyShelf();
        checks.due("NONE", FamilyShelf.NONE, -1);
        for (int shelf = 0; shelf < 10; shelf++) {
            checks.due("new count", x.count(shelf), 0);
            checks.due("new nth", x.nth(shelf, 0), -1);
            checks.due("new size", x.size(shelf), 0);
            checks.due("new parts", x.parts(shelf), -1);
        }
        for (int e = 0; e < 12; e++) {
            checks.due("new weight", x.weight(e, 1), 0);
            checks.due("new edge", x.cut(e), false);
        }
        checks.due("new matchings", x.matchings(0), 1);
        dueSets("new matchings", x, 0, 0);
        checks.due("an object of its own", new FamilyShelf().count(0), 0);
    }

    private void put() {
        FamilyShelf x = new FamilyShelf();
        checks.due("put", x.put(3, 5), true);
        checks.due("put again", x.put(3, 5), false);
        checks.due("put on another shelf", x.put(4, 5), true);
        checks.due("put the empty set", x.put(3, 0), true);
        checks.due("put all elements", x.put(3, 4095), true);
        checks.due("put on the last shelf", x.put(9, 4095), true);
        dueSets("put", x, 3, 0, 5, 4095);
        for (int shelf : NO_SHELVES) {
            checks.dueThrow("put shelf " + shelf, INDEX, () -> x.put(shelf, 0));
            checks.dueThrow("put shelf first " + shelf, INDEX, () -> x.put(shelf, -1));
        }
        for (int set : NO_SETS) {
            checks.dueThrow("put set " + set, ARGUMENT, () -> x.put(0, set));
        }
        checks.due("put that threw", x.count(0), 0);
    }

    private void take() {
        FamilyShelf x = with(5, 6, 4095, 0);
        checks.due("take", x.take(0, 5), true);
        checks.due("take again", x.take(0, 5), false);
        checks.due("take one not there", x.take(0, 7), false);
        checks.due("take from another shelf", x.take(1, 6), false);
        checks.due("take all elements", x.take(0, 4095), true);
        dueSets("take", x, 0, 0, 6);
        checks.due("take the empty set", x.take(0, 0), true);
        dueSets("take", x, 0, 6);
        for (int shelf : NO_SHELVES) {
            checks.dueThrow("take shelf " + shelf, INDEX, () -> x.take(shelf, 0));
            checks.dueThrow("take shelf first " + shelf, INDEX, () -> x.take(shelf, 4096));
        }
        for (int set : NO_SETS) {
            checks.dueThrow("take set " + set, ARGUMENT, () -> x.take(0, set));
        }
    }

    private void clear() {
        FamilyShelf x = with(1, 2, 4095);
        x.put(1, 1);
        checks.due("clear", x.clear(0), 3);
        checks.due("cleared", x.count(0), 0);
        checks.due("clear again", x.clear(0), 0);
        checks.due("another shelf", x.count(1), 1);
        for (int shelf : NO_SHELVES) {
            checks.dueThrow("clear " + shelf, INDEX, () -> x.clear(shelf));
        }
        checks.due("clear of all sets", allSets().clear(0), 4096);
    }

    private void combineSets() {
        dueCombined(0, sets(1, 2, 4095), sets(2, 3), 2, 1, 3, 4095);
        dueCombined(0, sets(), sets());
        dueCombined(1, sets(1, 2, 4095), sets(2, 3, 4095), 2, 4095);
        dueCombined(1, sets(1), sets(2));
        dueCombined(1, sets(0, 64, 2048), sets(0, 2048), 0, 2048);
        dueCombined(2, sets(0, 64, 2048), sets(0, 2048), 64);
        dueCombined(2, sets(1, 2, 4095), sets(2, 3), 1, 4095);
        dueCombined(2, sets(2), sets(), 2);
        dueCombined(2, sets(2), sets(1, 2));
    }

    private void combinePairs() {
        dueCombined(3, sets(1, 2), sets(4, 2), 2, 6, 5, 3);
        dueCombined(3, sets(0, 2048), sets(1, 3072), 3072, 1, 2049);
        dueCombined(3, sets(1, 2), sets());
        dueCombined(3, sets(), sets(1, 2));
        dueCombined(3, sets(7, 9), sets(0), 9, 7);
        dueCombined(4, sets(3, 6), sets(2, 5), 4, 2, 1);
        dueCombined(4, sets(4095, 3072), sets(2049, 1025), 2048, 1024, 2049, 1025);
        dueCombined(4, sets(1, 2), sets());
        dueCombined(4, sets(7, 9), sets(4095), 9, 7);
    }

    private void combineParts() {
        dueCombined(5, sets(0, 1, 3, 4, 2048), sets(3, 3073), 4);
        dueCombined(5, sets(0, 1), sets(), 0, 1);
        dueCombined(5, sets(1, 3), sets(1), 3);
        dueCombined(5, sets(0), sets(0));
        for (int e = 0; e < 12; e++) {
            int rest = 4095 - (1 << e);
            dueCombined(5, sets(rest), sets(4095));
            dueCombined(5, sets(4095), sets(rest), 4095);
            dueCombined(6, sets(4095), sets(rest));
            dueCombined(6, sets(rest), sets(4095), rest);
        }
        dueCombined(6, sets(0, 1, 3, 4, 2049), sets(3, 2048), 0, 4, 1);
        dueCombined(6, sets(0, 1), sets(), 0, 1);
        dueCombined(6, sets(0, 1, 7), sets(0));
        dueCombined(6, sets(1, 3), sets(3), 1);
    }

    private void combineDivided() {
        // {0,2} {1,2} {0,3} {1,3} {3} divided by {2} {3}: {0} and {1} go with both, and only {3} is left over.
        dueCombined(7, sets(5, 6, 9, 10, 8), sets(4, 8), 2, 1);
        dueCombined(8, sets(5, 6, 9, 10, 8), sets(4, 8), 8);
        // A set that has an element of a divisor is no quotient, although the union is in f.
        dueCombined(7, sets(1), sets(1), 0);
        dueCombined(8, sets(1), sets(1));
        dueCombined(7, sets(2049, 1, 3073), sets(1), 0, 2048, 3072);
        dueCombined(7, sets(2049, 3073, 1), sets(2048), 1, 1025);
        dueCombined(8, sets(2049, 3073, 1), sets(2048), 1);
        dueCombined(7, sets(), sets(0));
        dueCombined(8, sets(), sets(0));
        dueCombined(7, sets(3, 4), sets(0), 4, 3);
        dueCombined(8, sets(3, 4), sets(0));
        dueCombined(7, sets(3, 4), sets(8));
        dueCombined(8, sets(3, 4), sets(8), 4, 3);
        dueCombined(7, sets(1, 2, 3), sets(1, 2), 0);
        dueCombined(8, sets(1, 2, 3), sets(1, 2), 3);
        dueCombined(7, sets(1), sets(0, 1));
        dueCombined(8, sets(1), sets(0, 1), 1);
        dueCombined(7, sets(0, 1, 2), sets(0, 1), 0);
        dueCombined(8, sets(0, 1, 2), sets(0, 1), 2);
    }

    private void combineSameShelves() {
        FamilyShelf x = with(1, 2);
        checks.due("join with itself", x.combine(0, 3, 0, 0), 3);
        dueSets("join with itself", x, 0, 2, 1, 3);
        checks.due("meet with itself", x.combine(0, 4, 0, 0), 4);
        dueSets("meet with itself", x, 0, 0, 2, 1, 3);
        fill(x, 1, 1, 7);
        checks.due("to is g", x.combine(1, 2, 0, 1), 3);
        dueSets("to is g", x, 1, 0, 2, 3);
        checks.due("f is untouched", x.count(0), 4);
        checks.due("to is f", x.combine(0, 8, 0, 1), 1);
        dueSets("to is f", x, 0, 1);
        checks.due("divided by itself", x.combine(0, 7, 0, 0), 1);
        dueSets("divided by itself", x, 0, 0);
        checks.due("less itself", x.combine(0, 2, 0, 0), 0);
        checks.dueThrow("nothing divided by itself", ARITHMETIC, () -> x.combine(0, 7, 0, 0));
    }

    private void combineWrong() {
        FamilyShelf x = with(1);
        for (int shelf : NO_SHELVES) {
            checks.dueThrow("combine to", INDEX, () -> x.combine(shelf, 9, 0, 1));
            checks.dueThrow("combine f", INDEX, () -> x.combine(0, -1, shelf, 1));
            checks.dueThrow("combine g", INDEX, () -> x.combine(0, 9, 0, shelf));
            checks.dueThrow("combine to, no divisor", INDEX, () -> x.combine(shelf, 7, 0, 1));
        }
        for (int how : new int[] {-1, 9, Integer.MIN_VALUE, Integer.MAX_VALUE}) {
            checks.dueThrow("combine how " + how, ARGUMENT, () -> x.combine(0, how, 0, 1));
        }
        checks.dueThrow("quotient by nothing", ARITHMETIC, () -> x.combine(0, 7, 0, 1));
        checks.dueThrow("remainder by nothing", ARITHMETIC, () -> x.combine(0, 8, 0, 1));
        for (int how = 0; how <= 6; how++) {
            int kind = how;
            checks.due("combine without g " + how, Checks.answerOf(() -> x.combine(2, kind, 1, 1)), "0");
        }
        dueSets("combine that threw", x, 0, 1);
    }

    private void change() {
        for (int e = 0; e < 12; e++) {
            int bit = 1 << e;
            int other = 1 << (e + 1) % 12;
            FamilyShelf x = with(0, bit, bit | other, other);
            checks.due("change 0", x.change(1, 0, 0, e), 2);
            checks.due("change 0 empty", x.has(1, 0), true);
            checks.due("change 0 other", x.has(1, other), true);
            x.take(0, 0);
            checks.due("change 1", x.change(1, 1, 0, e), 1);
            dueSets("change 1", x, 1, other);
            checks.due("change 2", x.change(0, 2, 0, e), 3);
            checks.due("change 2 had it", x.has(0, 0) && x.has(0, other), true);
            checks.due("change 2 had it not", x.has(0, bit | other), true);
            checks.due("change of none", x.change(0, 0, 5, e), 0);
        }
        FamilyShelf x = with(1, 2);
        for (int wrong : NO_SHELVES) {
            checks.dueThrow("change to", INDEX, () -> x.change(wrong, 3, 0, 0));
            checks.dueThrow("change f", INDEX, () -> x.change(0, 3, wrong, 0));
        }
        for (int wrong : NO_ELEMENTS) {
            checks.dueThrow("change e", INDEX, () -> x.change(0, -1, 0, wrong));
        }
        for (int how : new int[] {-1, 3, Integer.MIN_VALUE, Integer.MAX_VALUE}) {
            checks.dueThrow("change how " + how, ARGUMENT, () -> x.change(0, how, 0, 0));
        }
        dueSets("change that threw", x, 0, 2, 1);
    }

    private void extreme() {
        FamilyShelf x = with(0, 1, 3, 2, 4, 2052, 8);
        checks.due("greatest", x.extreme(1, 0, true), 3);
        dueSets("greatest", x, 1, 8, 2052, 3);
        checks.due("least", x.extreme(1, 0, false), 1);
        dueSets("least", x, 1, 0);
        x.take(0, 0);
        checks.due("least", x.extreme(0, 0, false), 4);
        dueSets("least", x, 0, 8, 4, 2, 1);
        FamilyShelf far = with(1, 4095, 2048);
        checks.due("greatest with sets far apart", far.extreme(1, 0, true), 1);
        dueSets("greatest with sets far apart", far, 1, 4095);
        checks.due("least with sets far apart", far.extreme(0, 0, false), 2);
        dueSets("least with sets far apart", far, 0, 2048, 1);
        checks.due("of none", far.extreme(0, 5, true), 0);
        for (int shelf : NO_SHELVES) {
            checks.dueThrow("extreme to", INDEX, () -> x.extreme(shelf, 0, true));
            checks.dueThrow("extreme f", INDEX, () -> x.extreme(0, shelf, false));
        }
    }

    private void sized() {
        FamilyShelf x = allSets();
        int[] due = {1, 12, 66, 220, 495, 792, 924, 792, 495, 220, 66, 12, 1};
        for (int n = 0; n <= 12; n++) {
            checks.due("sized " + n, x.sized(1, 0, n), due[n]);
        }
        dueSets("sized 12", x, 1, 4095);
        FamilyShelf y = with(0, 1, 2048, 3, 2049, 4095);
        checks.due("sized onto itself", y.sized(0, 0, 2), 2);
        dueSets("sized onto itself", y, 0, 2049, 3);
        for (int shelf : NO_SHELVES) {
            checks.dueThrow("sized to", INDEX, () -> y.sized(shelf, 0, 13));
            checks.dueThrow("sized f", INDEX, () -> y.sized(0, shelf, -1));
        }
        for (int n : new int[] {-1, 13, Integer.MIN_VALUE, Integer.MAX_VALUE}) {
            checks.dueThrow("sized n " + n, ARGUMENT, () -> y.sized(0, 0, n));
        }
        checks.due("sized that threw", y.count(0), 2);
    }

    private void edgeAndCut() {
        FamilyShelf x = new FamilyShelf();
        x.edge(0, 0, 6);
        checks.due("edge", x.paths(0, 6, 0), 1);
        x.edge(0, 1, 2);
        checks.due("edge put elsewhere, old", x.paths(0, 0, 6), 0);
        checks.due("edge put elsewhere, new", x.paths(0, 1, 2), 1);
        checks.due("the shelf is as it was", x.has(0, 1), true);
        x.edge(11, 2, 3);
        checks.due("cut", x.cut(0), true);
        checks.due("cut again", x.cut(0), false);
        checks.due("cut takes the edge away", x.paths(1, 1, 2), 0);
        checks.due("cut leaves other edges", x.paths(1, 2, 3), 1);
        checks.due("cut leaves shelves", x.has(0, 1), true);
        for (int e : NO_ELEMENTS) {
            checks.dueThrow("edge e", INDEX, () -> edgeCall(x, e, 1, 1));
            checks.dueThrow("cut e", INDEX, () -> x.cut(e));
        }
        for (int v : NO_VERTICES) {
            checks.dueThrow("edge u", INDEX, () -> edgeCall(x, 0, v, 1));
            checks.dueThrow("edge v", INDEX, () -> edgeCall(x, 0, 1, v));
            checks.dueThrow("edge u and v", INDEX, () -> edgeCall(x, 0, v, v));
        }
        checks.dueThrow("edge u is v", ARGUMENT, () -> edgeCall(x, 11, 3, 3));
        checks.due("edge that threw", x.paths(1, 2, 3), 1);
        checks.due("edge that threw is none", x.cut(0), false);
    }

    private static int edgeCall(FamilyShelf x, int e, int u, int v) {
        x.edge(e, u, v);
        return 0;
    }

    private void paths() {
        FamilyShelf x = new FamilyShelf();
        x.edge(0, 0, 1);
        x.edge(1, 1, 2);
        x.edge(2, 2, 0);
        x.edge(11, 1, 2);
        fill(x, 0, 4095, 1);
        fill(x, 1, 4095, 1);
        checks.due("paths in a triangle", x.paths(1, 0, 2), 3);
        checks.due("paths in a triangle", x.paths(0, 0, 2), 3);
        dueSets("paths in a triangle", x, 0, 4, 2049, 3);
        checks.due("paths the other way", x.paths(0, 2, 0), 3);
        checks.due("paths to the same vertex", x.paths(0, 1, 1), 1);
        dueSets("paths to the same vertex", x, 0, 0);
        checks.due("paths to a lone vertex", x.paths(0, 1, 6), 0);
        checks.due("paths from a lone vertex to itself", x.paths(0, 6, 6), 1);
        for (int v = 0; v < 6; v++) {
            x.edge(v, v, v + 1);
        }
        x.cut(11);
        checks.due("a path through all vertices", x.paths(9, 6, 0), 1);
        dueSets("a path through all vertices", x, 9, 63);
        for (int wrong : NO_SHELVES) {
            checks.dueThrow("paths shelf", INDEX, () -> x.paths(wrong, 0, 0));
        }
        for (int wrong : NO_VERTICES) {
            checks.dueThrow("paths s", INDEX, () -> x.paths(9, wrong, 0));
            checks.dueThrow("paths t", INDEX, () -> x.paths(9, 0, wrong));
        }
        dueSets("paths that threw", x, 9, 63);
    }

    private void matchings() {
        FamilyShelf x = new FamilyShelf();
        x.edge(0, 0, 1);
        x.edge(1, 1, 2);
        x.edge(2, 2, 3);
        x.edge(11, 3, 2);
        fill(x, 4, 4095, 3);
        fill(x, 5, 4095, 3);
        checks.due("matchings", x.matchings(5), 7);
        checks.due("matchings", x.matchings(4), 7);
        dueSets("matchings", x, 4, 0, 2048, 4, 2, 1, 2049, 5);
        x.cut(0);
        checks.due("matchings after cut", x.matchings(4), 4);
        dueSets("matchings after cut", x, 4, 0, 2048, 4, 2);
        for (int shelf : NO_SHELVES) {
            checks.dueThrow("matchings", INDEX, () -> x.matchings(shelf));
        }
    }

    private void weight() {
        FamilyShelf x = new FamilyShelf();
        checks.due("weight at first", x.weight(0, -99), 0);
        checks.due("weight", x.weight(0, 99), -99);
        checks.due("weight again", x.weight(0, 1), 99);
        checks.due("weight of another", x.weight(11, 5), 0);
        for (int e : NO_ELEMENTS) {
            checks.dueThrow("weight e", INDEX, () -> x.weight(e, 100));
        }
        for (int weight : new int[] {-100, 100, Integer.MIN_VALUE, Integer.MAX_VALUE}) {
            checks.dueThrow("weight " + weight, ARGUMENT, () -> x.weight(0, weight));
        }
        checks.due("weight that threw", x.weight(0, 0), 1);
    }

    private void countAndHas() {
        FamilyShelf x = with(0, 7, 4095);
        checks.due("count", x.count(0), 3);
        checks.due("count of all sets", allSets().count(0), 4096);
        checks.due("has", x.has(0, 7), true);
        checks.due("has not", x.has(0, 6), false);
        checks.due("has the mirrored one not", x.has(0, 3584), false);
        checks.due("has on another shelf", x.has(9, 7), false);
        for (int shelf : NO_SHELVES) {
            checks.dueThrow("count", INDEX, () -> x.count(shelf));
            checks.dueThrow("has shelf", INDEX, () -> x.has(shelf, -1));
        }
        for (int set : NO_SETS) {
            checks.dueThrow("has set", ARGUMENT, () -> x.has(0, set));
        }
    }

    private void nthAndRank() {
        FamilyShelf x = with(0, 1, 2, 3, 2048, 2049);
        dueSets("the order", x, 0, 0, 2048, 2, 1, 2049, 3);
        int[] inOrder = {0, 2048, 2, 1, 2049, 3};
        for (int i = 0; i < inOrder.length; i++) {
            checks.due("rank", x.rank(0, inOrder[i]), i);
        }
        checks.due("rank of a set not there", x.rank(0, 5), 5);
        checks.due("rank of the last one", x.rank(0, 4095), 6);
        checks.due("rank without sets", x.rank(1, 4095), 0);
        for (int i : new int[] {6, 4096, -1, Integer.MAX_VALUE, Integer.MIN_VALUE}) {
            checks.due("nth " + i, x.nth(0, i), -1);
        }
        checks.due("nth without sets", x.nth(1, 0), -1);
        FamilyShelf all = allSets();
        checks.due("nth of all", all.nth(0, 4095), 4095);
        checks.due("nth of all", all.nth(0, 63), 4032);
        checks.due("nth of all", all.nth(0, 64), 32);
        checks.due("nth of all", all.nth(0, 4096), -1);
        checks.due("rank of all", all.rank(0, 4032), 63);
        for (int shelf : NO_SHELVES) {
            checks.dueThrow("nth", INDEX, () -> x.nth(shelf, 0));
            checks.dueThrow("rank shelf", INDEX, () -> x.rank(shelf, -1));
        }
        for (int set : NO_SETS) {
            checks.dueThrow("rank set", ARGUMENT, () -> x.rank(0, set));
        }
    }

    private void heaviest() {
        FamilyShelf x = with(1, 2, 3, 2048);
        checks.due("heaviest, all alike", x.heaviest(0), 2048);
        x.weight(0, 5);
        checks.due("heaviest, two alike", x.heaviest(0), 1);
        x.weight(1, 5);
        checks.due("heaviest", x.heaviest(0), 3);
        x.weight(11, 99);
        checks.due("heaviest by the last element", x.heaviest(0), 2048);
        for (int e = 0; e < 12; e++) {
            x.weight(e, -1 - e);
        }
        checks.due("heaviest below 0", x.heaviest(0), 1);
        x.put(0, 0);
        checks.due("heaviest of the empty set", x.heaviest(0), 0);
        x.put(0, 4095);
        for (int e = 0; e < 12; e++) {
            x.weight(e, 99);
        }
        checks.due("heaviest of all elements", x.heaviest(0), 4095);
        checks.dueThrow("heaviest without sets", NO_SUCH, () -> x.heaviest(1));
        for (int shelf : NO_SHELVES) {
            checks.dueThrow("heaviest", INDEX, () -> x.heaviest(shelf));
        }
    }

    private void size() {
        checks.due("size without sets", new FamilyShelf().size(0), 0);
        checks.due("size of the empty set", with(0).size(0), 0);
        checks.due("size of one set", with(4095).size(0), 12);
        checks.due("size of {5}", with(32).size(0), 1);
        checks.due("size of all sets", allSets().size(0), 12);
        // {0} {1} {0,1}: the family itself for 0; behind {} the family {1}, behind {0} the families {} and {1}.
        checks.due("size with two nodes of 1", with(1, 2, 3).size(0), 3);
        // {1} stands behind {} and behind {0}, and counts once.
        checks.due("size with one node of 1", with(2, 3).size(0), 2);
        // Without 0 and 1: {2} behind {} and {0,1}, {3} behind {0} and {1}.
        checks.due("size with shared nodes", with(4, 9, 10, 7).size(0), 5);
        FamilyShelf x = with(1, 2, 3);
        checks.due("size", x.size(0), 3);
        x.take(0, 3);
        checks.due("size after take", x.size(0), 2);
        checks.due("size again", x.size(0), 2);
        for (int shelf : NO_SHELVES) {
            checks.dueThrow("size", INDEX, () -> x.size(shelf));
        }
    }

    private void parts() {
        checks.due("parts without sets", new FamilyShelf().parts(0), -1);
        checks.due("parts of one set", with(5).parts(0), -1);
        checks.due("parts", with(5, 4).parts(0), 0);
        checks.due("parts", with(5, 1).parts(0), 2);
        checks.due("parts", with(0, 2048).parts(0), 11);
        checks.due("parts", with(33, 65, 1).parts(0), 5);
        for (int e = 0; e < 12; e++) {
            checks.due("parts", with(4095, 4095 - (1 << e)).parts(0), e);
        }
        FamilyShelf x = with(1);
        for (int shelf : NO_SHELVES) {
            checks.dueThrow("parts", INDEX, () -> x.parts(shelf));
        }
    }

    private void throwingChangesNothing() {
        FamilyShelf x = with(1, 2);
        Checks.answerOf(() -> x.put(0, 4096));
        Checks.answerOf(() -> x.take(0, -1));
        Checks.answerOf(() -> x.clear(10));
        Checks.answerOf(() -> x.combine(0, 9, 0, 0));
        Checks.answerOf(() -> x.combine(0, 7, 0, 1));
        Checks.answerOf(() -> x.change(0, 3, 0, 0));
        Checks.answerOf(() -> x.extreme(0, 10, true));
        Checks.answerOf(() -> x.sized(0, 0, 13));
        Checks.answerOf(() -> x.paths(0, 0, 7));
        Checks.answerOf(() -> x.matchings(10));
        dueSets("after calls that threw", x, 0, 2, 1);
        for (int shelf = 1; shelf < 10; shelf++) {
            checks.due("after calls that threw", x.count(shelf), 0);
        }
    }

    /** As many calls as an object is made for, on the largest families. */
    private void dearestCalls() {
        FamilyShelf x = allSets();
        for (int call = 0; call < 60; call++) {
            checks.due("join of all", x.combine(1, 3, 0, 0), 4096);
            checks.due("meet of all", x.combine(1, 4, 0, 0), 4096);
            checks.due("quotient of all", x.combine(1, 7, 0, 0), 1);
            checks.due("remainder of all", x.combine(1, 8, 0, 0), 0);
            checks.due("size of all", x.size(0), 12);
            checks.due("greatest of all", x.extreme(1, 0, true), 1);
            checks.due("heaviest of all", x.heaviest(0), 0);
        }
    }
}
