import java.util.NoSuchElementException;

/** The document's sentences that name a boundary case, in its order; refused calls stand in RefusedTest. */
public final class BoundariesTest {
    private static final int FULL = 4095;
    private static final int MIN = Integer.MIN_VALUE;
    private static final int MAX = Integer.MAX_VALUE;

    private final Checks checks = new Checks();

    public static void main(String[] args) {
        BoundariesTest test = new BoundariesTest();
        test.mostCalls();
        test.elements();
        test.numbersOfSets();
        test.shelves();
        test.order();
        test.orderOfAll();
        test.partOfItself();
        test.quotient();
        test.remainder();
        test.sizeCountsSetsThatHaveTheElement();
        test.sizeCountsDifferentFamilies();
        test.sizeOfSetsOfOneSize();
        test.largestSize();
        test.vertices();
        test.noEdgeAtFirst();
        test.pathToItself();
        test.pathByDifferentVertices();
        test.pathOfEdges();
        test.matching();
        test.weights();
        test.newObject();
        test.put();
        test.take();
        test.clear();
        test.combineIntoItsOwn();
        test.combineSame();
        test.change();
        test.extreme();
        test.sized();
        test.edge();
        test.cut();
        test.paths();
        test.matchings();
        test.weightIsWhatItHad();
        test.countAndHas();
        test.nth();
        test.rank();
        test.heaviest();
        test.size();
        test.parts();
        test.readingChangesNothing();
        test.checks.end("BoundariesTest");
    }

    private Run run(String sentence) {
        return new Run(checks, sentence);
    }

    private void mostCalls() {
        Run run = run("at most 512 calls after it has been made").putsAll(0, 1);
        while (run.callsLeft() > 5) {
            run.due(1, "combine", 1, 7, 0, 0);
        }
        run.due(4096, "combine", 1, 3, 0, 0).due(4096, "combine", 9, 4, 0, 0);
        run.due(12, "size", 9).due(FULL, "nth", 9, 4095).due(4096, "clear", 9);
        checks.due("at most 512 calls: left", run.callsLeft(), 0);
    }

    private void elements() {
        for (int e = 0; e <= 11; e++) {
            Run run = run("ELEMENTS are 0 .. 11").puts(0, 1 << e, FULL - (1 << e));
            run.due(1, "change", 1, 0, 0, e).dueSets(1, 0);
            run.due(1, "change", 1, 1, 0, e).dueSets(1, FULL - (1 << e));
            run.due("nothing", "edge", e, 0, 6).due(1, "paths", 2, 6, 0).dueSets(2, 1 << e);
            run.due(true, "cut", e);
            run.due(0, "weight", e, 1).due(1 << e, "heaviest", 0);
        }
    }

    private void numbersOfSets() {
        Run run = run("its NUMBER is 2^e for each element e in it, 0 .. 4095");
        run.due(true, "put", 0, 0).due(true, "put", 0, FULL).dueSets(0, 0, FULL);
        run.due(1, "sized", 1, 0, 0).dueSets(1, 0);
        run.due(1, "sized", 1, 0, 12).dueSets(1, FULL);
        run.due(true, "has", 0, 0).due(true, "has", 0, FULL).due(0, "rank", 0, 0).due(1, "rank", 0, FULL);
        run.due(true, "take", 0, 0).due(true, "take", 0, FULL).dueSets(0);
    }

    private void shelves() {
        Run run = run("SHELVES 0 .. 9 have a family each, at first the one without sets");
        for (int shelf = 0; shelf <= 9; shelf++) {
            run.due(0, "count", shelf).due(-1, "nth", shelf, 0);
        }
        for (int shelf = 0; shelf <= 9; shelf++) {
            run.due(true, "put", shelf, 100 + shelf).due(true, "put", shelf, FULL);
        }
        for (int shelf = 0; shelf <= 9; shelf++) {
            run.dueSets(shelf, 100 + shelf, FULL);
        }
        for (int shelf = 0; shelf <= 8; shelf++) {
            run.due(2, "combine", shelf, 0, shelf, shelf).due(2, "clear", shelf).dueSets(shelf);
            run.dueSets(shelf + 1, 101 + shelf, FULL);
        }
    }

    /** The set that comes first in each row is before the other one. */
    private void order() {
        int[][] rows = {
            {0, 1}, {0, 2048}, {0, FULL}, {1, FULL}, {2048, 1}, {2, 1}, {1, 3}, {1, 2049}, {4094, 1}, {4094, FULL},
            {FULL - 2048, FULL}, {2048, 1024}, {1024, 3072}, {3072, 512}, {64, 32}, {96, 16}, {4032, 32}, {2, 2046}};
        for (int[] row : rows) {
            int first = row[0];
            int second = row[1];
            Run run = run("THE ORDER").puts(0, second, first).dueSets(0, first, second);
            run.due(0, "rank", 0, first).due(1, "rank", 0, second);
            run.due(first, "heaviest", 0);
        }
    }

    /** Read as a number of twelve digits whose highest one is element 0, the sets in order are 0, 1, 2 .. 4095. */
    private void orderOfAll() {
        for (int from = 0; from < 4096; from += 128) {
            Run run = run("THE ORDER, of all sets").putsAll(0, 1);
            for (int i = from; i < from + 128; i++) {
                int set = Integer.reverse(i) >>> 20;
                run.due(set, "nth", 0, i).due(i, "rank", 0, set);
            }
        }
    }

    private void partOfItself() {
        for (int set : new int[] {0, 1, 2048, 1365, FULL}) {
            Run run = run("Each set is a part of itself").puts(0, set).puts(1, set);
            run.due(0, "combine", 2, 5, 0, 1).due(0, "combine", 2, 6, 0, 1);
            run.due(0, "combine", 2, 5, 0, 0).due(0, "combine", 2, 6, 0, 0);
            run.due(1, "extreme", 2, 0, 1).dueSets(2, set).due(1, "extreme", 2, 0, 0).dueSets(2, set);
        }
        Run run = run("a part, but not of itself alone").puts(0, 1, 3, 7).puts(1, 3);
        run.due(1, "combine", 2, 5, 0, 1).dueSets(2, 7);
        run.due(1, "combine", 2, 6, 0, 1).dueSets(2, 1);
    }

    private void quotient() {
        Run run = run("QUOTIENT: A and B have nothing in common").puts(0, 1, 3, 2).puts(1, 1);
        run.due(2, "combine", 2, 7, 0, 1).dueSets(2, 0, 2);
        run = run("QUOTIENT: for each set B of g").puts(0, 5, 6, 10, 9, 17).puts(1, 4, 8).puts(2, 4, 8, 16);
        run.due(2, "combine", 3, 7, 0, 1).dueSets(3, 2, 1);
        run.due(1, "combine", 3, 7, 0, 2).dueSets(3, 1);
        run.puts(2, 32).due(0, "combine", 3, 7, 0, 2).dueSets(3);
        run = run("QUOTIENT: the set without elements is in g").puts(0, 0, 1, 2, 3).puts(1, 0, 1);
        run.due(2, "combine", 2, 7, 0, 1).dueSets(2, 0, 2);
        run = run("QUOTIENT: a part of f's set, that B has not").puts(0, FULL).puts(1, 1, FULL);
        run.due(0, "combine", 2, 7, 0, 1);
        for (int e = 0; e < 12; e++) {
            run = run("QUOTIENT by one element").puts(0, FULL, 1 << e, FULL - (1 << e)).puts(1, 1 << e);
            run.due(2, "combine", 2, 7, 0, 1).dueSets(2, 0, FULL - (1 << e));
            run.due(1, "combine", 2, 8, 0, 1).dueSets(2, FULL - (1 << e));
            run.make("take", 1, 1 << e).puts(1, FULL - (1 << e));
            run.due(2, "combine", 2, 7, 0, 1).dueSets(2, 0, 1 << e);
        }
    }

    private void remainder() {
        Run run = run("REMAINDER: no quotient, and so all of f").puts(0, 1, 2, FULL - 4).puts(1, 4);
        run.due(3, "combine", 2, 8, 0, 1).dueSets(2, 2, 1, FULL - 4);
        run = run("REMAINDER: all of f are such unions").puts(0, 5, 6, 9, 10).puts(1, 4, 8);
        run.due(0, "combine", 2, 8, 0, 1).dueSets(2);
        run = run("REMAINDER: some of f are").puts(0, 5, 6, 9, 10, 3, 4).puts(1, 4, 8);
        run.due(2, "combine", 2, 8, 0, 1).dueSets(2, 4, 3);
        run = run("REMAINDER: f has no sets").puts(1, 4, 8);
        run.due(0, "combine", 2, 8, 0, 1).dueSets(2);
    }

    private void sizeCountsSetsThatHaveTheElement() {
        Run run = run("THE SIZE: counted are those in which some set has e");
        run.due(0, "size", 0).puts(0, 0).due(0, "size", 0);
        for (int e = 0; e < 12; e++) {
            run.make("clear", 0).puts(0, 1 << e).due(1, "size", 0);
            run.puts(0, 0).due(1, "size", 0);
        }
        for (int e = 0; e < 12; e++) {
            run.make("clear", 1).puts(1, FULL - (1 << e)).due(11, "size", 1);
            run.puts(1, FULL).due(12, "size", 1);
        }
    }

    private void sizeCountsDifferentFamilies() {
        // Behind {} and behind {0} stands {1} alike: one for 0, one for 1.
        run("THE SIZE: different families").puts(0, 2, 3).due(2, "size", 0);
        // Behind {} stands {1}, behind {0} stand {} and {1}: one for 0, two for 1.
        run("THE SIZE: different families").puts(0, 2, 1, 3).due(3, "size", 0);
        // Behind {} and {0} stands {11}, for whatever lies between: one for 0, one for 11.
        run("THE SIZE: the least and the greatest element").puts(0, 2048, 2049).due(2, "size", 0);
        run("THE SIZE: the least and the greatest element").puts(0, 2048, 1, 2049).due(3, "size", 0);
        // The family {11}, {} has 11 as well as the family {11}: two for 11, besides one for 0.
        run("THE SIZE: the greatest element").puts(0, 2048, 0, 2049).due(3, "size", 0);
        // The singletons: behind {} stand those that are left, behind each one {} alone: one for each element.
        Run run = run("THE SIZE: sets of one element");
        for (int e = 0; e < 12; e++) {
            run.puts(0, 1 << e).due(e + 1, "size", 0);
        }
    }

    /** For e, still k of n elements to come, e .. 11 having k or more, and k is 1 .. n: n * (13 - n) such pairs. */
    private void sizeOfSetsOfOneSize() {
        Run run = run("THE SIZE, of all sets of n elements").putsAll(0, 1);
        for (int n = 0; n <= 12; n++) {
            run.make("sized", 1, 0, n).due(n * (13 - n), "size", 1);
        }
        run.due(12, "size", 0);
    }

    /**
     * The elements 9 .. 11 name one of 0 .. 7, and a set has that one just when it has 8; {8} is there besides. No two
     * choices of elements below 9 leave the same, so 0 .. 8 count 1, 2, 4 .. 256; 9, 10 and 11 count all that is left.
     */
    private void largestSize() {
        Run run = run("THE SIZE: no family has a larger one").puts(1, 0);
        for (int e = 0; e < 8; e++) {
            run.make("change", 2, 2, 1, e).make("combine", 1, 0, 1, 2);
        }
        for (int e = 0; e < 8; e++) {
            run.make("change", 2, 0, 1, e).make("change", 2, 2, 2, e).make("change", 2, 2, 2, 8);
            run.make("change", 3, 1, 1, e).make("combine", 2, 0, 2, 3);
            for (int bit = 0; bit < 3; bit++) {
                if ((e >> bit & 1) != 0) {
                    run.make("change", 2, 2, 2, 9 + bit);
                }
            }
            run.make("combine", 0, 0, 0, 2);
        }
        run.puts(0, 1 << 8).due(2049, "count", 0);
        run.due(511 + 240 + 12 + 2, "size", 0).due(511 + 240 + 12 + 2, "size", 0);
        run.make("clear", 0).due(0, "size", 0);
    }

    private void vertices() {
        for (int u = 0; u <= 6; u++) {
            for (int v = 0; v <= 6; v++) {
                if (u != v) {
                    Run run = run("VERTICES are 0 .. 6").due("nothing", "edge", 0, u, v);
                    run.due(1, "paths", 0, u, v).dueSets(0, 1).due(1, "paths", 1, v, u).dueSets(1, 1);
                    run.due(0, "paths", 2, u, (v + 1) % 7 == u ? (v + 2) % 7 : (v + 1) % 7);
                }
            }
        }
    }

    private void noEdgeAtFirst() {
        Run run = run("An element may be an EDGE; at first none is");
        for (int u = 0; u <= 6; u++) {
            for (int v = 0; v <= 6; v++) {
                run.due(u == v ? 1 : 0, "paths", 0, u, v);
            }
        }
        run.due(1, "matchings", 0).dueSets(0, 0);
        for (int e = 0; e <= 11; e++) {
            run.due(false, "cut", e);
        }
    }

    private void pathToItself() {
        Run run = run("for s = t, the set without elements alone");
        for (int v = 0; v <= 6; v++) {
            run.puts(0, 1, FULL).due(1, "paths", 0, v, v).dueSets(0, 0);
        }
        for (int e = 0; e < 7; e++) {
            run.make("edge", e, e, (e + 1) % 7);
        }
        run.make("edge", 11, 0, 1);
        for (int v = 0; v <= 6; v++) {
            run.puts(0, 1, FULL).due(1, "paths", 0, v, v).dueSets(0, 0);
        }
    }

    private void pathByDifferentVertices() {
        Run ring = run("by vertices that are all different: a ring has two ways");
        for (int e = 0; e < 7; e++) {
            ring.make("edge", e, e, (e + 1) % 7);
        }
        ring.due(2, "paths", 0, 0, 6).dueSets(0, 64, 63);
        ring.due(2, "paths", 0, 0, 3).dueSets(0, 8 + 16 + 32 + 64, 7);
        Run eight = run("by vertices that are all different: none twice through 2");
        eight.make("edge", 0, 0, 2).make("edge", 1, 2, 3).make("edge", 2, 3, 4).make("edge", 3, 4, 2);
        eight.make("edge", 4, 2, 1);
        eight.due(1, "paths", 0, 0, 1).dueSets(0, 17);
        Run back = run("by vertices that are all different: not back to s, not on from t");
        back.make("edge", 0, 0, 1).make("edge", 1, 0, 1).make("edge", 2, 0, 1).make("edge", 3, 1, 2);
        back.due(3, "paths", 0, 0, 1).dueSets(0, 4, 2, 1);
        back.due(3, "paths", 0, 0, 2).dueSets(0, 12, 10, 9);
    }

    private void pathOfEdges() {
        Run line = run("in some order, lead from s to t: through all vertices");
        int[] walk = {3, 0, 6, 1, 5, 2, 4};
        int[] edges = {7, 0, 11, 3, 9, 1};
        int all = 0;
        for (int i = 0; i < 6; i++) {
            line.make("edge", edges[i], walk[i], walk[i + 1]);
            all |= 1 << edges[i];
        }
        line.due(1, "paths", 0, 3, 4).dueSets(0, all).due(1, "paths", 0, 4, 3).dueSets(0, all);
        line.due(1, "paths", 0, 0, 2).dueSets(0, all - (1 << 7) - (1 << 1));
        line.make("cut", 3).due(0, "paths", 0, 3, 4).dueSets(0).due(1, "paths", 0, 3, 1);
        Run doubled = run("paths: two edges for each step").puts(1, 0, 1, FULL);
        for (int e = 0; e < 12; e++) {
            doubled.make("edge", e, e / 2, e / 2 + 1);
        }
        doubled.due(64, "paths", 1, 0, 6).due(64, "sized", 2, 1, 6);
        doubled.due(64, "extreme", 2, 1, 1).due(2730, "nth", 1, 0).due(1365, "nth", 1, 63).due(-1, "nth", 1, 64);
        Run beside = run("paths: all edges between the same two vertices");
        for (int e = 0; e < 12; e++) {
            beside.make("edge", e, e % 2 == 0 ? 0 : 6, e % 2 == 0 ? 6 : 0);
        }
        beside.due(12, "paths", 0, 0, 6).due(12, "sized", 0, 0, 1).due(0, "paths", 0, 1, 6).due(1, "paths", 0, 6, 6);
    }

    private void matching() {
        Run run = run("A MATCHING: no two have a vertex in common");
        run.due(1, "matchings", 0).dueSets(0, 0);
        run.make("edge", 0, 0, 6).due(2, "matchings", 0).dueSets(0, 0, 1);
        run.make("edge", 11, 6, 0).due(3, "matchings", 0).dueSets(0, 0, 2048, 1);
        run.make("edge", 5, 6, 5).due(4, "matchings", 0).dueSets(0, 0, 2048, 32, 1);
        run.make("edge", 4, 1, 2).due(8, "matchings", 0).dueSets(0, 0, 2048, 32, 16, 2064, 48, 1, 17);
        Run beside = run("matchings: all edges between the same two vertices");
        for (int e = 0; e < 12; e++) {
            beside.make("edge", e, 3, 4);
        }
        beside.due(13, "matchings", 0).due(12, "sized", 1, 0, 1).due(1, "sized", 1, 0, 0);
        Run apart = run("matchings: three pairs of vertices with four edges each");
        for (int e = 0; e < 12; e++) {
            apart.make("edge", e, e % 3, 3 + e % 3);
        }
        apart.due(125, "matchings", 0).due(64, "sized", 1, 0, 3).due(0, "sized", 1, 0, 4);
        Run star = run("matchings: all edges have vertex 6");
        for (int e = 0; e < 12; e++) {
            star.make("edge", e, 6, e % 6);
        }
        star.due(13, "matchings", 9);
    }

    private void weights() {
        Run run = run("Each element has a WEIGHT, at first 0").putsAll(0, 1).due(0, "heaviest", 0);
        for (int e = 0; e <= 11; e++) {
            run.due(0, "weight", e, -99);
        }
        run.due(0, "heaviest", 0).puts(1, 0).due(0, "heaviest", 1);
        for (int e = 0; e <= 11; e++) {
            run.due(-99, "weight", e, 99);
        }
        run.due(FULL, "heaviest", 0).due(0, "heaviest", 1);
        run.due(99, "weight", 0, -99).due(4094, "heaviest", 0).due(99, "weight", 11, -99).due(2046, "heaviest", 0);
    }

    private void newObject() {
        Run first = run("1: Shelves without sets, no edges, weights 0");
        String empty = run("1").state();
        checks.due("1: a new object", first.state(), empty);
        checks.due("1: no shelf has sets", empty.startsWith(" shelf 0[0] shelf 1[0] shelf 2[0]"), true);
        checks.due("1: no edges", empty.contains(" edges 0-1[0]") && empty.contains(" edges 5-6[0]"), true);
        checks.due("1: weights 0", empty.endsWith(" weights 0 0 0 0 0 0 0 0 0 0 0 0"), true);
        Run other = run("1: an object beside it");
        other.puts(0, 5).make("edge", 0, 0, 1).make("weight", 0, 9);
        checks.due("1: a new object has nothing of another one", run("1").state(), empty);
        other.dueSets(0, 5).due(true, "cut", 0).due(9, "weight", 0, 0);
    }

    private void put() {
        for (int shelf : new int[] {0, 9}) {
            for (int set : new int[] {0, FULL}) {
                Run run = run("2 put: whether it was not in it").due(true, "put", shelf, set).due(false, "put", shelf, set);
                run.dueSets(shelf, set).due(true, "put", 9 - shelf, set).due(true, "take", shelf, set);
                run.due(true, "put", shelf, set).due(false, "put", 9 - shelf, set);
                run.due(true, "put", shelf, FULL - set).dueSets(shelf, 0, FULL);
            }
        }
    }

    private void take() {
        for (int shelf : new int[] {0, 9}) {
            for (int set : new int[] {0, FULL}) {
                Run run = run("3 take: whether it was in it").due(false, "take", shelf, set).dueSets(shelf);
                run.puts(shelf, set, FULL - set).due(false, "take", 9 - shelf, set);
                run.due(true, "take", shelf, set).dueSets(shelf, FULL - set).due(false, "take", shelf, set);
                run.due(true, "take", shelf, FULL - set).dueSets(shelf);
            }
        }
    }

    private void clear() {
        Run run = run("4 clear: how many it had").puts(9, 0).puts(0, 0, FULL);
        run.due(0, "clear", 5).due(1, "clear", 9).due(0, "clear", 9).due(2, "count", 0);
        run.due(2, "clear", 0).dueSets(0).dueSets(9);
        run.puts(0, 7).dueSets(0, 7).due(1, "clear", 0);
    }

    private void combineIntoItsOwn() {
        int[][] due = {
            {8, 4, 10, 6, 9, 5, 3}, {8}, {10, 6, 9, 5, 3}, {8, 12, 10, 6, 14, 9, 5, 13, 11, 7}, {0, 8, 4},
            {10, 6, 9, 5, 3}, {3}, {2, 1}, {8, 3}};
        int[] f = {8, 10, 6, 9, 5, 3};
        int[] g = {8, 4};
        for (int how = 0; how <= 8; how++) {
            for (int[] shelves : new int[][] {{0, 0, 9}, {9, 0, 9}, {5, 0, 9}, {0, 9, 0}, {9, 9, 0}, {9, 4, 5}}) {
                int to = shelves[0];
                Run run = run("5 combine: f's and g's may be to").puts(shelves[1], f).puts(shelves[2], g);
                run.due(due[how].length, "combine", to, how, shelves[1], shelves[2]).dueSets(to, due[how]);
                run.dueSets(shelves[1], to == shelves[1] ? due[how] : f);
                run.dueSets(shelves[2], to == shelves[2] ? due[how] : g);
            }
        }
    }

    private void combineSame() {
        int[][] due = {{2, 1}, {2, 1}, {}, {2, 1, 3}, {0, 2, 1}, {}, {}, {0}, {}};
        for (int how = 0; how <= 8; how++) {
            for (int to : new int[] {0, 1, 9}) {
                for (int same : new int[] {0, 9}) {
                    Run run = run("5 combine: f's and g's may be the same").puts(same, 1, 2);
                    run.due(due[how].length, "combine", to, how, same, same).dueSets(to, due[how]);
                    run.dueSets(same, to == same ? due[how] : new int[] {2, 1});
                }
            }
        }
    }

    private void change() {
        for (int e : new int[] {0, 5, 6, 11}) {
            int bit = 1 << e;
            for (int to : new int[] {0, 4, 9}) {
                Run run = run("6 change: without it; all, but each that had e without");
                run.puts(0, bit, FULL).puts(4, 0, FULL - bit);
                run.due(2, "change", to, 0, 0, e).dueSets(to, 0, FULL - bit);
                run = run("6 change: those that have e, those that do not").puts(0, bit, FULL, 0, FULL - bit);
                run.due(2, "change", to, 1, 0, e).dueSets(to, 0, FULL - bit);
                run = run("6 change: each that had not with it").puts(0, 0, FULL - bit);
                run.due(2, "change", to, 2, 0, e).dueSets(to, bit, FULL);
                run.due(2, "change", 7, 2, to, e).dueSets(7, 0, FULL - bit);
                run = run("6 change: a set with e and one without it change places").puts(0, bit, 0);
                run.due(2, "change", to, 2, 0, e).dueSets(to, 0, bit);
                run.due(1, "change", to, 0, to, e).dueSets(to, 0).due(0, "change", to, 0, to, e).dueSets(to);
            }
        }
    }

    private void extreme() {
        for (int to : new int[] {0, 9}) {
            Run run = run("7 extreme: a chain").puts(0, 0, 1, 3, 7, 2055, FULL);
            run.due(1, "extreme", to, 0, 1).dueSets(to, FULL);
            run = run("7 extreme: a chain").puts(0, 0, 1, 3, 7, 2055, FULL);
            run.due(1, "extreme", to, 0, 0).dueSets(to, 0);
            run = run("7 extreme: no set is a part of another one").putsAll(0, 1);
            run.make("sized", 0, 0, 6).due(924, "extreme", to, 0, 1).due(924, "extreme", to, 0, 0);
            run = run("7 extreme: one set alone is both").puts(0, 77);
            run.due(1, "extreme", to, 0, 1).dueSets(to, 77).due(1, "extreme", to, to, 0).dueSets(to, 77);
            run = run("7 extreme: of no sets").puts(9, 3);
            run.due(0, "extreme", to, 5, 1).dueSets(to).due(0, "extreme", to, 5, 0).dueSets(to);
        }
        for (int e = 0; e < 12; e++) {
            Run run = run("7 extreme: one element more").puts(0, FULL - (1 << e), FULL).puts(1, 0, 1 << e);
            run.due(1, "extreme", 2, 0, 1).dueSets(2, FULL).due(1, "extreme", 2, 0, 0).dueSets(2, FULL - (1 << e));
            run.due(1, "extreme", 2, 1, 1).dueSets(2, 1 << e).due(1, "extreme", 2, 1, 0).dueSets(2, 0);
        }
    }

    private void sized() {
        for (int n = 0; n <= 12; n++) {
            int low = (1 << n) - 1;
            int high = FULL - (FULL >> n);
            int[] due = low == high ? new int[] {low} : new int[] {high, low};
            Run run = run("8 sized: those that have n elements").puts(0, 0, FULL, low, high);
            run.due(due.length, "sized", 9, 0, n).dueSets(9, due).due(due.length, "sized", 0, 0, n).dueSets(0, due);
        }
    }

    private void edge() {
        Run run = run("9 edge: the least and the greatest").make("edge", 0, 0, 6).make("edge", 11, 6, 0);
        run.due(2, "paths", 0, 0, 6).dueSets(0, 2048, 1);
        run = run("9 edge: one that was an edge").make("edge", 0, 0, 1).make("edge", 0, 0, 1).make("edge", 0, 1, 0);
        run.due(1, "paths", 0, 0, 1).make("edge", 0, 5, 6).due(0, "paths", 1, 0, 1).due(1, "paths", 2, 6, 5);
        run.dueSets(0, 1).dueSets(1).dueSets(2, 1);
        run.due(true, "cut", 0).due(false, "cut", 0).due(0, "paths", 1, 5, 6);
    }

    private void cut() {
        Run run = run("10 cut: whether it was one");
        for (int e : new int[] {0, 11}) {
            run.due(false, "cut", e).make("edge", e, 0, 6).due(1, "paths", 1, 0, 6).due(true, "cut", e);
            run.dueSets(1, 1 << e).due(0, "paths", 1, 0, 6).due(false, "cut", e);
            run.make("edge", e, 1, 2).due(0, "paths", 1, 0, 6).due(1, "paths", 1, 1, 2).due(true, "cut", e);
        }
    }

    private void paths() {
        Run run = run("11 paths: on the first and the last shelf").make("edge", 0, 0, 1).make("edge", 1, 1, 6);
        run.puts(0, 5, FULL).puts(9, 5, FULL);
        run.due(1, "paths", 0, 0, 6).dueSets(0, 3).dueSets(9, 5, FULL);
        run.due(1, "paths", 9, 6, 1).dueSets(9, 2).dueSets(0, 3);
        run.due(0, "paths", 0, 0, 5).dueSets(0).due(0, "paths", 9, 5, 4).dueSets(9);
    }

    private void matchings() {
        Run run = run("12 matchings: on the first and the last shelf").puts(0, 5, FULL).puts(9, 5, FULL);
        run.due(1, "matchings", 0).dueSets(0, 0).dueSets(9, 5, FULL);
        run.make("edge", 11, 0, 1).due(2, "matchings", 9).dueSets(9, 0, 2048).dueSets(0, 0);
        run.make("cut", 11).due(1, "matchings", 9).dueSets(9, 0);
    }

    private void weightIsWhatItHad() {
        for (int e : new int[] {0, 11}) {
            Run run = run("13 weight: what it had").due(0, "weight", e, 99).due(99, "weight", e, 99);
            run.due(99, "weight", e, -99).due(-99, "weight", e, -99).due(-99, "weight", e, 0).due(0, "weight", e, 98);
            run.due(98, "weight", e, -98).due(-98, "weight", e, 0).due(0, "weight", 11 - e, 0);
        }
    }

    private void countAndHas() {
        for (int shelf : new int[] {0, 9}) {
            Run run = run("14 count, 15 has").due(0, "count", shelf);
            run.due(false, "has", shelf, 0).due(false, "has", shelf, FULL);
            run.puts(shelf, 0).due(1, "count", shelf).due(true, "has", shelf, 0).due(false, "has", shelf, FULL);
            run.puts(shelf, FULL).due(2, "count", shelf).due(true, "has", shelf, FULL);
            run.due(false, "has", shelf, 1).due(false, "has", shelf, FULL - 1).due(false, "has", 9 - shelf, 0);
            run = run("14 count of all sets").putsAll(shelf, 5).due(4096, "count", shelf).due(0, "count", 9 - shelf);
        }
    }

    private void nth() {
        for (int shelf : new int[] {0, 9}) {
            Run run = run("16 nth: NONE when it has not so many").puts(shelf, 3, 1, FULL);
            run.due(1, "nth", shelf, 0).due(3, "nth", shelf, 1).due(FULL, "nth", shelf, 2).due(-1, "nth", shelf, 3);
            for (int i : new int[] {-1, -3, MIN, MIN + 1, MAX, 64, 4095, 4096, 65536}) {
                run.due(-1, "nth", shelf, i).due(-1, "nth", 9 - shelf, i);
            }
            run.due(-1, "nth", 9 - shelf, 0);
            run = run("16 nth of all sets").putsAll(shelf, 5).due(0, "nth", shelf, 0).due(2048, "nth", shelf, 1);
            run.due(FULL - 2048, "nth", shelf, 4094).due(FULL, "nth", shelf, 4095).due(-1, "nth", shelf, 4096);
            run.due(-1, "nth", shelf, -1).due(-1, "nth", shelf, MIN).due(-1, "nth", shelf, MAX);
        }
    }

    private void rank() {
        for (int shelf : new int[] {0, 9}) {
            Run run = run("17 rank: how many are before a set").due(0, "rank", shelf, 0).due(0, "rank", shelf, FULL);
            run.puts(shelf, 0).due(0, "rank", shelf, 0).due(1, "rank", shelf, 2048).due(1, "rank", shelf, FULL);
            run.puts(shelf, FULL).due(0, "rank", shelf, 0).due(1, "rank", shelf, FULL).due(1, "rank", shelf, FULL - 2048);
            run.due(0, "rank", 9 - shelf, FULL);
            run = run("17 rank in a family of all sets").putsAll(shelf, 5).due(0, "rank", shelf, 0);
            run.due(1, "rank", shelf, 2048).due(2048, "rank", shelf, 1).due(4095, "rank", shelf, FULL);
            run.due(true, "take", shelf, FULL).due(4095, "rank", shelf, FULL).due(true, "take", shelf, 0);
            run.due(4094, "rank", shelf, FULL).due(0, "rank", shelf, 0).due(0, "rank", shelf, 2048);
        }
    }

    private void heaviest() {
        Run run = run("18 heaviest: of several the one before all others").puts(0, FULL, 3, 1, 2, 2048);
        run.due(2048, "heaviest", 0).puts(0, 0).due(0, "heaviest", 0);
        run.make("weight", 0, 7).due(1, "heaviest", 0).make("weight", 1, 7).due(3, "heaviest", 0);
        run.make("weight", 11, 14).due(FULL, "heaviest", 0).make("take", 0, FULL).due(2048, "heaviest", 0);
        run = run("18 heaviest: all weigh less than 0").puts(9, FULL, 1, 2048);
        for (int e = 0; e <= 11; e++) {
            run.make("weight", e, -99);
        }
        run.due(2048, "heaviest", 9).make("take", 9, 2048).due(1, "heaviest", 9);
        run.make("take", 9, 1).due(FULL, "heaviest", 9).make("take", 9, FULL);
        run.dueThrow(NoSuchElementException.class, "heaviest", 9);
        run.puts(9, FULL).due(FULL, "heaviest", 9).puts(9, 0).due(0, "heaviest", 9);
        run = run("18 heaviest of all sets, elements that weigh nothing").putsAll(9, 0);
        for (int e = 0; e <= 11; e++) {
            run.make("weight", e, e % 3 == 0 ? 1 : e % 3 == 1 ? 0 : -1);
        }
        run.due(1 + 8 + 64 + 512, "heaviest", 9);
    }

    private void size() {
        for (int shelf : new int[] {0, 9}) {
            Run run = run("19 size: after each change").due(0, "size", shelf).puts(shelf, FULL).due(12, "size", shelf);
            run.puts(shelf, 0).due(12, "size", shelf).make("take", shelf, FULL).due(0, "size", shelf);
            run.puts(shelf, 2048).due(1, "size", shelf).due(0, "size", 9 - shelf);
            run.make("clear", shelf).due(0, "size", shelf);
        }
    }

    private void parts() {
        Run run = run("20 parts: NONE when there is none").due(-1, "parts", 0).due(-1, "parts", 9);
        run.puts(0, 0).puts(9, FULL).due(-1, "parts", 0).due(-1, "parts", 9);
        run.puts(0, FULL).due(0, "parts", 0).puts(9, FULL - 2048).due(11, "parts", 9);
        run.puts(9, FULL - 2).due(1, "parts", 9).make("take", 9, FULL - 2).due(11, "parts", 9);
        run.make("take", 9, FULL).due(-1, "parts", 9);
        for (int e = 0; e <= 11; e++) {
            int above = FULL - (2 << e) + 1;
            run = run("20 parts: the least element").puts(0, above | 1 << e, 0).due(e, "parts", 0);
            run.puts(1, 1 << e, 0).due(e, "parts", 1);
            run.puts(2, FULL, FULL - (1 << e)).due(e, "parts", 2);
        }
    }

    private void readingChangesNothing() {
        String before = read(0);
        checks.due("calls that only read change nothing", read(3), before);
    }

    private String read(int times) {
        Run run = run("calls that only read").puts(0, 0, FULL, 5, 9).puts(3, 7, 8).puts(9, 1, 2048);
        run.make("edge", 0, 0, 6).make("edge", 11, 1, 2).make("weight", 0, 99).make("weight", 11, -99);
        for (int i = 0; i < times; i++) {
            for (int shelf : new int[] {0, 3, 9}) {
                run.make("count", shelf).make("has", shelf, 5).make("nth", shelf, i).make("rank", shelf, FULL);
                run.make("heaviest", shelf).make("size", shelf).make("parts", shelf);
            }
        }
        return run.state();
    }
}
