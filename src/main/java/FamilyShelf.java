import java.util.Arrays;
import java.util.NoSuchElementException;

/**
 * Ten shelves with families of sets of the elements 0 .. 11, a graph whose edges are elements, and a weight for each
 * element. A set is named by its number: 2^e for each element e in it, together.
 */
public final class FamilyShelf {
    public static final int NONE = -1;

    private static final int ELEMENTS = 12;
    private static final int SETS = 1 << ELEMENTS;
    private static final int SHELVES = 10;
    private static final int VERTICES = 7;
    private static final int WEIGHT_LIMIT = 99;

    private static final int UNION = 0;
    private static final int BOTH = 1;
    private static final int LESS = 2;
    private static final int JOIN = 3;
    private static final int MEET = 4;
    private static final int NOT_UNDER = 5;
    private static final int NOT_OVER = 6;
    private static final int QUOTIENT = 7;
    private static final int REMAINDER = 8;

    private static final int WITH_IT = 0;
    private static final int WITHOUT_IT = 1;
    private static final int TURNED = 2;

    private static final int LOW_BITS = 6;
    private static final int WORDS = 64;
    private static final int LOW = WORDS - 1;

    /** For each of the low bits of a place: the places of one word that have it. */
    private static final long[] HAVING = {
        0xAAAAAAAAAAAAAAAAL, 0xCCCCCCCCCCCCCCCCL, 0xF0F0F0F0F0F0F0F0L,
        0xFF00FF00FF00FF00L, 0xFFFF0000FFFF0000L, 0xFFFFFFFF00000000L
    };

    private final Family[] shelves = new Family[SHELVES];
    private final Algebra algebra = new Algebra();
    private final Graph graph = new Graph();
    private final Weights weights = new Weights();
    private final Diagram diagram = new Diagram();

    /** Where a new family grows: the shelf that gets it may also be one that it is made from. */
    private Family fresh = new Family();

    public FamilyShelf() {
        for (int shelf = 0; shelf < SHELVES; shelf++) {
            shelves[shelf] = new Family();
        }
    }

    public boolean put(int shelf, int set) throws IndexOutOfBoundsException, IllegalArgumentException {
        checkShelf(shelf);
        checkSet(set);
        int place = mirrored(set);
        boolean isNew = !shelves[shelf].holds(place);
        shelves[shelf].include(place);
        return isNew;
    }

    public boolean take(int shelf, int set) throws IndexOutOfBoundsException, IllegalArgumentException {
        checkShelf(shelf);
        checkSet(set);
        int place = mirrored(set);
        boolean wasThere = shelves[shelf].holds(place);
        shelves[shelf].exclude(place);
        return wasThere;
    }

    public int clear(int shelf) throws IndexOutOfBoundsException {
        checkShelf(shelf);
        int had = shelves[shelf].total();
        shelves[shelf].fill(0L);
        return had;
    }

    public int combine(int to, int how, int f, int g)
            throws IndexOutOfBoundsException, IllegalArgumentException, ArithmeticException {
        checkShelf(to);
        checkShelf(f);
        checkShelf(g);
        checkRange(how, UNION, REMAINDER);
        if (how == QUOTIENT || how == REMAINDER) {
            checkDivisor(shelves[g]);
        }
        algebra.combineInto(fresh, how, shelves[f], shelves[g]);
        return shelveFresh(to);
    }

    public int change(int to, int how, int f, int e) throws IndexOutOfBoundsException, IllegalArgumentException {
        checkShelf(to);
        checkShelf(f);
        checkElement(e);
        checkRange(how, WITH_IT, TURNED);
        algebra.changeInto(fresh, how, shelves[f], bitOf(e));
        return shelveFresh(to);
    }

    public int extreme(int to, int f, boolean greatest) throws IndexOutOfBoundsException {
        checkShelf(to);
        checkShelf(f);
        algebra.extremeInto(fresh, shelves[f], greatest);
        return shelveFresh(to);
    }

    public int sized(int to, int f, int n) throws IndexOutOfBoundsException, IllegalArgumentException {
        checkShelf(to);
        checkShelf(f);
        checkRange(n, 0, ELEMENTS);
        algebra.sizedInto(fresh, shelves[f], n);
        return shelveFresh(to);
    }

    public void edge(int e, int u, int v) throws IndexOutOfBoundsException, IllegalArgumentException {
        checkElement(e);
        checkVertex(u);
        checkVertex(v);
        checkDifferent(u, v);
        graph.exchange(e, (1 << u) | (1 << v));
    }

    public boolean cut(int e) throws IndexOutOfBoundsException {
        checkElement(e);
        return graph.exchange(e, 0) != 0;
    }

    public int paths(int shelf, int s, int t) throws IndexOutOfBoundsException {
        checkShelf(shelf);
        checkVertex(s);
        checkVertex(t);
        graph.pathsInto(fresh, s, t);
        return shelveFresh(shelf);
    }

    public int matchings(int shelf) throws IndexOutOfBoundsException {
        checkShelf(shelf);
        graph.matchingsInto(fresh);
        return shelveFresh(shelf);
    }

    public int weight(int e, int weight) throws IndexOutOfBoundsException, IllegalArgumentException {
        checkElement(e);
        checkRange(weight, -WEIGHT_LIMIT, WEIGHT_LIMIT);
        return weights.exchange(e, weight);
    }

    public int count(int shelf) throws IndexOutOfBoundsException {
        checkShelf(shelf);
        return shelves[shelf].total();
    }

    public boolean has(int shelf, int set) throws IndexOutOfBoundsException, IllegalArgumentException {
        checkShelf(shelf);
        checkSet(set);
        return shelves[shelf].holds(mirrored(set));
    }

    public int nth(int shelf, int i) throws IndexOutOfBoundsException {
        checkShelf(shelf);
        int place = shelves[shelf].placeAt(i);
        return place == NONE ? NONE : mirrored(place);
    }

    public int rank(int shelf, int set) throws IndexOutOfBoundsException, IllegalArgumentException {
        checkShelf(shelf);
        checkSet(set);
        return shelves[shelf].totalBefore(mirrored(set));
    }

    public int heaviest(int shelf) throws IndexOutOfBoundsException, NoSuchElementException {
        checkShelf(shelf);
        int place = weights.heaviestPlace(shelves[shelf]);
        checkFound(place);
        return mirrored(place);
    }

    public int size(int shelf) throws IndexOutOfBoundsException {
        checkShelf(shelf);
        return diagram.nodesFor(shelves[shelf]);
    }

    public int parts(int shelf) throws IndexOutOfBoundsException {
        checkShelf(shelf);
        for (int e = 0; e < ELEMENTS; e++) {
            if (shelves[shelf].isParted(bitOf(e))) {
                return e;
            }
        }
        return NONE;
    }

    /** The family that the shelf had is where the next one grows, so that no call makes an object. */
    private int shelveFresh(int to) {
        Family old = shelves[to];
        shelves[to] = fresh;
        fresh = old;
        return shelves[to].total();
    }

    /** The bit of a place that stands for an element: the least element has the highest one. */
    private static int bitOf(int e) {
        return ELEMENTS - 1 - e;
    }

    /** The place of a set by its number, and as well the number by its place. */
    private static int mirrored(int number) {
        int turned = 0;
        for (int e = 0; e < ELEMENTS; e++) {
            turned |= (number >> e & 1) << bitOf(e);
        }
        return turned;
    }

    private static void checkShelf(int shelf) {
        if (shelf < 0 || shelf >= SHELVES) {
            throw new IndexOutOfBoundsException("no such shelf");
        }
    }

    private static void checkElement(int e) {
        if (e < 0 || e >= ELEMENTS) {
            throw new IndexOutOfBoundsException("no such element");
        }
    }

    private static void checkVertex(int v) {
        if (v < 0 || v >= VERTICES) {
            throw new IndexOutOfBoundsException("no such vertex");
        }
    }

    private static void checkSet(int set) {
        checkRange(set, 0, SETS - 1);
    }

    private static void checkRange(int value, int least, int greatest) {
        if (value < least || value > greatest) {
            throw new IllegalArgumentException("an argument outside its range");
        }
    }

    private static void checkDifferent(int u, int v) {
        if (u == v) {
            throw new IllegalArgumentException("an edge from a vertex to itself");
        }
    }

    private static void checkDivisor(Family g) {
        if (g.total() == 0) {
            throw new ArithmeticException("division by a family without sets");
        }
    }

    private static void checkFound(int place) {
        if (place == NONE) {
            throw new NoSuchElementException("a family without sets");
        }
    }

    /**
     * A family, with one bit for each set. The bit of a set stands at its place: its number read backwards, so that
     * element 0 is the highest of the place's twelve bits, and going up through the places is going through the order.
     * The high six bits of a place name a word, the low six a bit of that word.
     */
    private static final class Family {
        final long[] words = new long[WORDS];

        void fill(long word) {
            Arrays.fill(words, word);
        }

        void copyFrom(Family other) {
            System.arraycopy(other.words, 0, words, 0, WORDS);
        }

        boolean holds(int place) {
            return (words[place >> LOW_BITS] >>> (place & LOW) & 1L) != 0L;
        }

        void include(int place) {
            words[place >> LOW_BITS] |= 1L << (place & LOW);
        }

        void exclude(int place) {
            words[place >> LOW_BITS] &= ~(1L << (place & LOW));
        }

        int total() {
            return totalOfWords(WORDS);
        }

        int totalBefore(int place) {
            long lower = (1L << (place & LOW)) - 1L;
            int high = place >> LOW_BITS;
            return totalOfWords(high) + Long.bitCount(words[high] & lower);
        }

        private int totalOfWords(int end) {
            int sum = 0;
            for (int w = 0; w < end; w++) {
                sum += Long.bitCount(words[w]);
            }
            return sum;
        }

        /** The place of the i-th set, or NONE. */
        int placeAt(int i) {
            if (i < 0) {
                return NONE;
            }
            int left = i;
            for (int w = 0; w < WORDS; w++) {
                int here = Long.bitCount(words[w]);
                if (left < here) {
                    return (w << LOW_BITS) | lowPlaceAt(words[w], left);
                }
                left -= here;
            }
            return NONE;
        }

        private static int lowPlaceAt(long word, int i) {
            int left = i;
            for (int low = 0; low < LOW; low++) {
                if ((word >>> low & 1L) != 0L) {
                    if (left == 0) {
                        return low;
                    }
                    left--;
                }
            }
            return LOW;
        }

        /** Whether some sets have the bit, and others do not. */
        boolean isParted(int bit) {
            long with = 0L;
            long without = 0L;
            for (int w = 0; w < WORDS; w++) {
                with |= having(w, bit);
                without |= lacking(w, bit);
            }
            return with != 0L && without != 0L;
        }

        /** Of word w: the sets that have the bit. */
        long having(int w, int bit) {
            if (bit < LOW_BITS) {
                return words[w] & HAVING[bit];
            }
            return (w >> (bit - LOW_BITS) & 1) != 0 ? words[w] : 0L;
        }

        /** Of word w: the sets that do not have the bit. */
        long lacking(int w, int bit) {
            return words[w] & ~having(w, bit);
        }

        /** What comes into word w when all sets that have the bit lose it. */
        long lowered(int w, int bit) {
            if (bit < LOW_BITS) {
                return having(w, bit) >>> (1 << bit);
            }
            int high = 1 << (bit - LOW_BITS);
            return (w & high) == 0 ? words[w | high] : 0L;
        }

        /** What comes into word w when all sets that do not have the bit get it. */
        long raised(int w, int bit) {
            if (bit < LOW_BITS) {
                return lacking(w, bit) << (1 << bit);
            }
            int high = 1 << (bit - LOW_BITS);
            return (w & high) != 0 ? words[w ^ high] : 0L;
        }

        /** Like lowered (down) or raised. */
        long moved(int w, int bit, boolean down) {
            return down ? lowered(w, bit) : raised(w, bit);
        }

        /** All parts of the sets come in (down), or all sets of which these are parts. */
        void close(boolean down) {
            for (int bit = 0; bit < ELEMENTS; bit++) {
                for (int w = 0; w < WORDS; w++) {
                    words[w] |= moved(w, bit, down);
                }
            }
        }
    }

    /** Makes families of families; no family that it makes may be one of those that it is made from. */
    private static final class Algebra {
        private final Family helper = new Family();
        private final Family quotient = new Family();
        private final long[] shifted = new long[WORDS];

        /** The places of one word that have a number of bits, by that number. */
        private final long[] lowsBySize = new long[LOW_BITS + 1];

        Algebra() {
            for (int low = 0; low < WORDS; low++) {
                lowsBySize[Integer.bitCount(low)] |= 1L << low;
            }
        }

        void combineInto(Family out, int how, Family f, Family g) {
            switch (how) {
                case UNION:
                    unite(out, f, g);
                    break;
                case BOTH:
                    intersect(out, f, g);
                    break;
                case LESS:
                    subtract(out, f, g);
                    break;
                case JOIN:
                case MEET:
                    pair(out, f, g, how == JOIN);
                    break;
                case NOT_UNDER:
                case NOT_OVER:
                    helper.copyFrom(g);
                    helper.close(how == NOT_UNDER);
                    subtract(out, f, helper);
                    break;
                case QUOTIENT:
                    divide(out, f, g);
                    break;
                default: // REMAINDER
                    divide(quotient, f, g);
                    pair(helper, quotient, g, true);
                    subtract(out, f, helper);
                    break;
            }
        }

        private static void unite(Family out, Family f, Family g) {
            for (int w = 0; w < WORDS; w++) {
                out.words[w] = f.words[w] | g.words[w];
            }
        }

        private static void intersect(Family out, Family f, Family g) {
            for (int w = 0; w < WORDS; w++) {
                out.words[w] = f.words[w] & g.words[w];
            }
        }

        private static void subtract(Family out, Family f, Family g) {
            for (int w = 0; w < WORDS; w++) {
                out.words[w] = f.words[w] & ~g.words[w];
            }
        }

        /** All unions (joining) or intersections of a set of f and a set of g. */
        private void pair(Family out, Family f, Family g, boolean joining) {
            // Which one is which does not matter, and the work grows with the number of sets of the second one.
            boolean turn = f.total() < g.total();
            Family many = turn ? g : f;
            Family few = turn ? f : g;
            long lows = lowsOf(few);
            out.fill(0L);
            for (int low = 0; low < WORDS; low++) {
                if ((lows >>> low & 1L) != 0L) {
                    shiftAll(many, low, joining);
                    pairHighs(out, few, low, joining);
                }
            }
        }

        private static long lowsOf(Family family) {
            long lows = 0L;
            for (int w = 0; w < WORDS; w++) {
                lows |= family.words[w];
            }
            return lows;
        }

        private void shiftAll(Family family, int low, boolean joining) {
            for (int w = 0; w < WORDS; w++) {
                shifted[w] = joining ? joinedWord(family.words[w], low) : metWord(family.words[w], low);
            }
        }

        private static long joinedWord(long word, int low) {
            long joined = word;
            for (int bit = 0; bit < LOW_BITS; bit++) {
                if ((low >> bit & 1) != 0) {
                    joined = (joined & HAVING[bit]) | ((joined & ~HAVING[bit]) << (1 << bit));
                }
            }
            return joined;
        }

        private static long metWord(long word, int low) {
            long met = word;
            for (int bit = 0; bit < LOW_BITS; bit++) {
                if ((low >> bit & 1) == 0) {
                    met = (met & ~HAVING[bit]) | ((met & HAVING[bit]) >>> (1 << bit));
                }
            }
            return met;
        }

        /** The shifted sets come in, paired with the sets of g that have these low bits. */
        private void pairHighs(Family out, Family g, int low, boolean joining) {
            for (int high = 0; high < WORDS; high++) {
                if (g.holds((high << LOW_BITS) | low)) {
                    for (int w = 0; w < WORDS; w++) {
                        out.words[joining ? w | high : w & high] |= shifted[w];
                    }
                }
            }
        }

        private static void divide(Family out, Family f, Family g) {
            fillDisjoint(out, usedBits(g));
            for (int place = 0; place < SETS; place++) {
                if (g.holds(place)) {
                    keepUnionsIn(out, f, place);
                }
            }
        }

        /** Every bit that some set of the family has. */
        private static int usedBits(Family family) {
            int used = 0;
            for (int place = 0; place < SETS; place++) {
                if (family.holds(place)) {
                    used |= place;
                }
            }
            return used;
        }

        /** All sets that have none of the bits. */
        private static void fillDisjoint(Family out, int bits) {
            long lows = 1L;
            for (int bit = 0; bit < LOW_BITS; bit++) {
                if ((bits >> bit & 1) == 0) {
                    lows |= lows << (1 << bit);
                }
            }
            int high = bits >> LOW_BITS;
            for (int w = 0; w < WORDS; w++) {
                out.words[w] = (w & high) == 0 ? lows : 0L;
            }
        }

        /** Only sets stay whose union with the one at the place is in f; none of them has a bit of that place. */
        private static void keepUnionsIn(Family out, Family f, int place) {
            int high = place >> LOW_BITS;
            int low = place & LOW;
            for (int w = 0; w < WORDS; w++) {
                if (out.words[w] != 0L) {
                    // Sets that have nothing in common: the place of their union is the sum of their places.
                    out.words[w] &= f.words[w | high] >>> low;
                }
            }
        }

        void changeInto(Family out, int how, Family f, int bit) {
            for (int w = 0; w < WORDS; w++) {
                switch (how) {
                    case WITH_IT:
                        out.words[w] = f.lowered(w, bit);
                        break;
                    case WITHOUT_IT:
                        out.words[w] = f.lacking(w, bit);
                        break;
                    default: // TURNED
                        out.words[w] = f.lowered(w, bit) | f.raised(w, bit);
                        break;
                }
            }
        }

        void extremeInto(Family out, Family f, boolean greatest) {
            helper.copyFrom(f);
            helper.close(greatest);
            for (int w = 0; w < WORDS; w++) {
                out.words[w] = f.words[w] & ~stepped(w, greatest);
            }
        }

        /** Of word w: what is one element away from a set of the closed helper, and so no extreme one. */
        private long stepped(int w, boolean down) {
            long all = 0L;
            for (int bit = 0; bit < ELEMENTS; bit++) {
                all |= helper.moved(w, bit, down);
            }
            return all;
        }

        void sizedInto(Family out, Family f, int n) {
            for (int w = 0; w < WORDS; w++) {
                int lowSize = n - Integer.bitCount(w);
                boolean fits = lowSize >= 0 && lowSize <= LOW_BITS;
                out.words[w] = fits ? f.words[w] & lowsBySize[lowSize] : 0L;
            }
        }
    }

    /** The edges; vertices are held as bits, vertex v as 1 << v. */
    private static final class Graph {
        /** For each element the two vertices of its edge, 0 where it is none. */
        private final int[] ends = new int[ELEMENTS];

        int exchange(int e, int vertices) {
            int old = ends[e];
            ends[e] = vertices;
            return old;
        }

        void pathsInto(Family out, int s, int t) {
            out.fill(0L);
            walk(out, ends, 1 << s, 1 << t, 1 << s, 0);
        }

        /** Each level sees one vertex more, and goes on to unseen ones alone: there are at most VERTICES levels. */
        private static void walk(Family out, int[] ends, int at, int goal, int seen, int place) {
            if (at == goal) {
                out.include(place);
                return;
            }
            for (int e = 0; e < ELEMENTS; e++) {
                if ((ends[e] & seen) == at) {
                    walk(out, ends, ends[e] ^ at, goal, seen | ends[e], place | (1 << bitOf(e)));
                }
            }
        }

        void matchingsInto(Family out) {
            out.fill(0L);
            match(out, ends, 0, 0, 0);
        }

        /** Takes or leaves element e and all behind it; the level is the element. */
        private static void match(Family out, int[] ends, int e, int busy, int place) {
            if (e >= ELEMENTS) {
                out.include(place);
                return;
            }
            match(out, ends, e + 1, busy, place);
            if (ends[e] != 0 && (ends[e] & busy) == 0) {
                match(out, ends, e + 1, busy | ends[e], place | (1 << bitOf(e)));
            }
        }
    }

    private static final class Weights {
        private final int[] byElement = new int[ELEMENTS];
        private final int[] highSums = new int[WORDS];
        private final int[] lowSums = new int[WORDS];

        int exchange(int e, int weight) {
            int old = byElement[e];
            byElement[e] = weight;
            return old;
        }

        /** The first place of greatest weight, or NONE. */
        int heaviestPlace(Family family) {
            sumUp(lowSums, 0);
            sumUp(highSums, LOW_BITS);
            int best = NONE;
            int bestSum = 0;
            for (int place = 0; place < SETS; place++) {
                if (family.holds(place)) {
                    int sum = highSums[place >> LOW_BITS] + lowSums[place & LOW];
                    if (best == NONE || sum > bestSum) {
                        best = place;
                        bestSum = sum;
                    }
                }
            }
            return best;
        }

        /** The weights of all sets of the six elements whose bits begin with firstBit; the empty one's stays 0. */
        private void sumUp(int[] sums, int firstBit) {
            for (int i = 0; i < LOW_BITS; i++) {
                int half = 1 << i;
                int weight = byElement[bitOf(firstBit + i)];
                for (int k = 0; k < half; k++) {
                    sums[half + k] = sums[k] + weight;
                }
            }
        }
    }

    /** Counts the nodes of a family's diagram. A node is a family in which some set has the node's element. */
    private static final class Diagram {
        private static final int EMPTY = 0;
        private static final int FIRST_NODE = 2;

        /**
         * Element e has at most 2^e nodes, and 11, 10 and 9 have at most 2, 12 and 240, since there are no more
         * families of so few elements: 765 in all, and FIRST_NODE more.
         */
        private static final int NODE_LIMIT = 767;

        /** Equal numbers for equal families: EMPTY, 1 for the one that has the empty set alone, or a node. */
        private final int[] kinds = new int[SETS];
        /** For each kind: the newest node of this element whose sets with the element are that kind, or 0. */
        private final int[] newest = new int[NODE_LIMIT];
        /** For each node: the next older one in such a row, or 0. */
        private final int[] older = new int[NODE_LIMIT];
        /** For each node: the kind of its sets without the element. */
        private final int[] lacking = new int[NODE_LIMIT];
        private int end;

        int nodesFor(Family family) {
            for (int place = 0; place < SETS; place++) {
                kinds[place] = family.holds(place) ? 1 : EMPTY;
            }
            end = FIRST_NODE;
            for (int e = ELEMENTS - 1; e >= 0; e--) {
                Arrays.fill(newest, 0);
                for (int x = 0; x < 1 << e; x++) {
                    kinds[x] = kindOf(kinds[2 * x], kinds[2 * x + 1]);
                }
            }
            return end - FIRST_NODE;
        }

        private int kindOf(int without, int with) {
            if (with == EMPTY) {
                return without;
            }
            int node = newest[with];
            for (int step = 0; step < NODE_LIMIT && node != 0; step++) {
                if (lacking[node] == without) {
                    return node;
                }
                node = older[node];
            }
            return newNode(without, with);
        }

        private int newNode(int without, int with) {
            // No family comes to this, as NODE_LIMIT tells; but no index is used before it is looked at.
            if (end >= NODE_LIMIT) {
                return EMPTY;
            }
            int node = end;
            end++;
            lacking[node] = without;
            older[node] = newest[with];
            newest[with] = node;
            return node;
        }
    }
}
