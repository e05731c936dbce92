import java.util.ArrayList;
import java.util.HashMap;
import java.util.HashSet;
import java.util.List;
import java.util.Map;
import java.util.NoSuchElementException;
import java.util.Set;

/** The document word by word, without any thought for speed: what FamilyShelf is compared with. */
final class NaiveShelf {
    private static final int ELEMENTS = 12;
    private static final int SETS = 4096;
    private static final int VERTICES = 7;

    private final boolean[][] shelves = new boolean[10][SETS];
    private final int[] from = new int[ELEMENTS];
    private final int[] into = new int[ELEMENTS];
    private final int[] weights = new int[ELEMENTS];

    NaiveShelf() {
        for (int e = 0; e < ELEMENTS; e++) {
            from[e] = -1;
            into[e] = -1;
        }
    }

    boolean put(int shelf, int set) {
        index(shelf, 10);
        argument(set, 0, SETS - 1);
        boolean isNew = !shelves[shelf][set];
        shelves[shelf][set] = true;
        return isNew;
    }

    boolean take(int shelf, int set) {
        index(shelf, 10);
        argument(set, 0, SETS - 1);
        boolean had = shelves[shelf][set];
        shelves[shelf][set] = false;
        return had;
    }

    int clear(int shelf) {
        int had = count(shelf);
        shelves[shelf] = new boolean[SETS];
        return had;
    }

    int combine(int to, int how, int f, int g) {
        index(to, 10);
        index(f, 10);
        index(g, 10);
        argument(how, 0, 8);
        if (how >= 7 && count(g) == 0) {
            throw new ArithmeticException();
        }
        shelves[to] = combined(how, shelves[f], shelves[g]);
        return count(to);
    }

    private static boolean[] combined(int how, boolean[] f, boolean[] g) {
        boolean[] out = new boolean[SETS];
        List<Integer> fs = members(f);
        List<Integer> gs = members(g);
        switch (how) {
            case 0 -> { for (int a = 0; a < SETS; a++) out[a] = f[a] || g[a]; }
            case 1 -> { for (int a = 0; a < SETS; a++) out[a] = f[a] && g[a]; }
            case 2 -> { for (int a = 0; a < SETS; a++) out[a] = f[a] && !g[a]; }
            case 3 -> { for (int a : fs) for (int b : gs) out[a | b] = true; }
            case 4 -> { for (int a : fs) for (int b : gs) out[a & b] = true; }
            case 5 -> { for (int a : fs) out[a] = gs.stream().noneMatch(b -> isPart(a, b)); }
            case 6 -> { for (int a : fs) out[a] = gs.stream().noneMatch(b -> isPart(b, a)); }
            case 7 -> {
                for (int a = 0; a < SETS; a++) {
                    int set = a;
                    out[a] = gs.stream().allMatch(b -> (set & b) == 0 && f[set | b]);
                }
            }
            default -> {
                boolean[] unions = combined(3, combined(7, f, g), g);
                for (int a : fs) out[a] = !unions[a];
            }
        }
        return out;
    }

    int change(int to, int how, int f, int e) {
        index(to, 10);
        index(f, 10);
        index(e, ELEMENTS);
        argument(how, 0, 2);
        boolean[] out = new boolean[SETS];
        for (int a : members(shelves[f])) {
            boolean has = hasElement(a, e);
            if (how == 0 && has) out[a - (1 << e)] = true;
            if (how == 1 && !has) out[a] = true;
            if (how == 2) out[has ? a - (1 << e) : a + (1 << e)] = true;
        }
        shelves[to] = out;
        return count(to);
    }

    int extreme(int to, int f, boolean greatest) {
        index(to, 10);
        index(f, 10);
        boolean[] out = new boolean[SETS];
        List<Integer> fs = members(shelves[f]);
        for (int a : fs) {
            out[a] = fs.stream().noneMatch(b -> b != a && (greatest ? isPart(a, b) : isPart(b, a)));
        }
        shelves[to] = out;
        return count(to);
    }

    int sized(int to, int f, int n) {
        index(to, 10);
        index(f, 10);
        argument(n, 0, ELEMENTS);
        boolean[] out = new boolean[SETS];
        for (int a : members(shelves[f])) {
            out[a] = elementsOf(a).size() == n;
        }
        shelves[to] = out;
        return count(to);
    }

    void edge(int e, int u, int v) {
        index(e, ELEMENTS);
        index(u, VERTICES);
        index(v, VERTICES);
        if (u == v) {
            throw new IllegalArgumentException();
        }
        from[e] = u;
        into[e] = v;
    }

    boolean cut(int e) {
        index(e, ELEMENTS);
        boolean was = from[e] >= 0;
        from[e] = -1;
        into[e] = -1;
        return was;
    }

    int paths(int shelf, int s, int t) {
        index(shelf, 10);
        index(s, VERTICES);
        index(t, VERTICES);
        boolean[] out = new boolean[SETS];
        for (int a = 0; a < SETS; a++) {
            out[a] = s == t ? a == 0 : isPath(elementsOf(a), s, t);
        }
        shelves[shelf] = out;
        return count(shelf);
    }

    /** From s there is no choice: with two edges to go on by, one of them would be left over. */
    private boolean isPath(List<Integer> edges, int s, int t) {
        List<Integer> left = new ArrayList<>(edges);
        Set<Integer> seen = new HashSet<>(Set.of(s));
        int at = s;
        while (at != t) {
            int here = at;
            List<Integer> next = left.stream().filter(e -> from[e] == here || into[e] == here).toList();
            if (next.size() != 1) {
                return false;
            }
            int e = next.get(0);
            left.remove(Integer.valueOf(e));
            at = from[e] == here ? into[e] : from[e];
            if (!seen.add(at)) {
                return false;
            }
        }
        return left.isEmpty();
    }

    int matchings(int shelf) {
        index(shelf, 10);
        boolean[] out = new boolean[SETS];
        for (int a = 0; a < SETS; a++) {
            out[a] = isMatching(elementsOf(a));
        }
        shelves[shelf] = out;
        return count(shelf);
    }

    private boolean isMatching(List<Integer> edges) {
        Set<Integer> seen = new HashSet<>();
        for (int e : edges) {
            if (from[e] < 0 || !seen.add(from[e]) || !seen.add(into[e])) {
                return false;
            }
        }
        return true;
    }

    int weight(int e, int weight) {
        index(e, ELEMENTS);
        argument(weight, -99, 99);
        int old = weights[e];
        weights[e] = weight;
        return old;
    }

    int count(int shelf) {
        index(shelf, 10);
        return members(shelves[shelf]).size();
    }

    boolean has(int shelf, int set) {
        index(shelf, 10);
        argument(set, 0, SETS - 1);
        return shelves[shelf][set];
    }

    int nth(int shelf, int i) {
        index(shelf, 10);
        List<Integer> sorted = ordered(shelves[shelf]);
        return i >= 0 && i < sorted.size() ? sorted.get(i) : -1;
    }

    int rank(int shelf, int set) {
        index(shelf, 10);
        argument(set, 0, SETS - 1);
        return (int) members(shelves[shelf]).stream().filter(a -> isBefore(a, set)).count();
    }

    int heaviest(int shelf) {
        index(shelf, 10);
        List<Integer> sorted = ordered(shelves[shelf]);
        if (sorted.isEmpty()) {
            throw new NoSuchElementException();
        }
        int best = sorted.get(0);
        for (int a : sorted) {
            best = weightOf(a) > weightOf(best) ? a : best;
        }
        return best;
    }

    private int weightOf(int set) {
        return elementsOf(set).stream().mapToInt(e -> weights[e]).sum();
    }

    int size(int shelf) {
        index(shelf, 10);
        int sum = 0;
        for (int e = 0; e < ELEMENTS; e++) {
            int element = e;
            Set<Set<Integer>> families = new HashSet<>(behind(members(shelves[shelf]), e).values());
            sum += (int) families.stream().filter(h -> h.stream().anyMatch(a -> hasElement(a, element))).count();
        }
        return sum;
    }

    /** For each X below e that some set has: those sets, without X. (The others leave no sets, and never count.) */
    private static Map<Integer, Set<Integer>> behind(List<Integer> family, int e) {
        Map<Integer, Set<Integer>> found = new HashMap<>();
        for (int a : family) {
            int x = a & (1 << e) - 1;
            found.computeIfAbsent(x, key -> new HashSet<>()).add(a - x);
        }
        return found;
    }

    int parts(int shelf) {
        index(shelf, 10);
        List<Integer> all = members(shelves[shelf]);
        for (int e = 0; e < ELEMENTS; e++) {
            int element = e;
            long having = all.stream().filter(a -> hasElement(a, element)).count();
            if (having > 0 && having < all.size()) {
                return e;
            }
        }
        return -1;
    }

    private static List<Integer> ordered(boolean[] family) {
        List<Integer> sorted = new ArrayList<>(members(family));
        sorted.sort((a, b) -> a.equals(b) ? 0 : isBefore(a, b) ? -1 : 1);
        return sorted;
    }

    private static boolean isBefore(int a, int b) {
        for (int e = 0; e < ELEMENTS; e++) {
            if (hasElement(a, e) != hasElement(b, e)) {
                return !hasElement(a, e);
            }
        }
        return false;
    }

    private static List<Integer> members(boolean[] family) {
        List<Integer> found = new ArrayList<>();
        for (int a = 0; a < SETS; a++) {
            if (family[a]) {
                found.add(a);
            }
        }
        return found;
    }

    private static List<Integer> elementsOf(int set) {
        List<Integer> found = new ArrayList<>();
        for (int e = 0; e < ELEMENTS; e++) {
            if (hasElement(set, e)) {
                found.add(e);
            }
        }
        return found;
    }

    private static boolean hasElement(int set, int e) {
        return (set >> e & 1) != 0;
    }

    private static boolean isPart(int a, int b) {
        return (a & b) == a;
    }

    private static void index(int value, int end) {
        if (value < 0 || value >= end) {
            throw new IndexOutOfBoundsException();
        }
    }

    private static void argument(int value, int least, int greatest) {
        if (value < least || value > greatest) {
            throw new IllegalArgumentException();
        }
    }
}
