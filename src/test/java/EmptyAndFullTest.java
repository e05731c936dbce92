import java.util.NoSuchElementException;

/**
 * Every call on families without sets, with all sets, and with the least or the greatest set alone; and shelves that
 * get a family while they are also one of those that it is made from.
 *
 * A letter stands for a family: N has no sets, E the set without elements alone, F the set of all elements alone, B
 * these two, A all sets, a all but that of E, b all but that of F.
 */
public final class EmptyAndFullTest {
    private static final String LETTERS = "NEFA";
    private static final int FULL = 4095;
    private static final int[] BINOMIALS = {1, 12, 66, 220, 495, 792, 924, 792, 495, 220, 66, 12, 1};

    private final Checks checks = new Checks();

    public static void main(String[] args) {
        EmptyAndFullTest test = new EmptyAndFullTest();
        // f is N, E, F, A from row to row, g from letter to letter; a dash: the call is refused.
        test.combined(0, "UNION", "NEFA", "EEBA", "FBFA", "AAAA");
        test.combined(1, "BOTH", "NNNN", "NENE", "NNFF", "NEFA");
        test.combined(2, "LESS", "NNNN", "ENEN", "FFNN", "AabN");
        test.combined(3, "JOIN", "NNNN", "NEFA", "NFFF", "NAFA");
        test.combined(4, "MEET", "NNNN", "NEEE", "NEFA", "NEAA");
        test.combined(5, "NOT UNDER", "NNNN", "ENNN", "FFNN", "AaNN");
        test.combined(6, "NOT OVER", "NNNN", "ENEN", "FNNN", "ANbN");
        test.combined(7, "QUOTIENT", "-NNN", "-ENN", "-FEN", "-AEE");
        test.combined(8, "REMAINDER", "-NNN", "-NEE", "-NNF", "-NbN");
        test.changed();
        test.extremes();
        test.sized();
        test.putAndTake();
        test.clear();
        test.pathsAndMatchings();
        test.readOnly();
        test.checks.end("EmptyAndFullTest");
    }

    private Run run(String sentence) {
        return new Run(checks, sentence);
    }

    /** The shelf, which has no sets, gets the family; shelf 8 is used on the way. */
    private static void put(Run run, int shelf, char letter) {
        if (letter == 'A') {
            run.putsAll(shelf, 8);
        } else if (letter == 'E') {
            run.puts(shelf, 0);
        } else if (letter == 'F') {
            run.puts(shelf, FULL);
        } else if (letter == 'B') {
            run.puts(shelf, 0, FULL);
        }
    }

    /** The count and the two ends are enough to know any of these families. */
    private static void due(Run run, int shelf, char letter) {
        boolean hasEmpty = "EBAb".indexOf(letter) >= 0;
        boolean hasFull = "FBAa".indexOf(letter) >= 0;
        run.due(countOf(letter), "count", shelf);
        run.due(hasEmpty, "has", shelf, 0).due(hasFull, "has", shelf, FULL);
    }

    private static int countOf(char letter) {
        switch (letter) {
            case 'N': return 0;
            case 'A': return 4096;
            case 'a': case 'b': return 4095;
            case 'B': return 2;
            default: return 1;
        }
    }

    private void combined(int how, String kind, String... rows) {
        for (int i = 0; i < LETTERS.length(); i++) {
            for (int k = 0; k < LETTERS.length(); k++) {
                char f = LETTERS.charAt(i);
                char g = LETTERS.charAt(k);
                String sentence = kind + " of " + f + " and " + g;
                for (int to : new int[] {0, 1, 2, 9}) {
                    combinedInto(sentence, to, how, f, g, rows[i].charAt(k));
                }
                if (f == g) {
                    combinedWithItself(sentence, 0, how, f, rows[i].charAt(k));
                    combinedWithItself(sentence, 2, how, f, rows[i].charAt(k));
                }
            }
        }
    }

    /** Shelf 0 has f, shelf 1 has g, and what is to get the new family has had some others. */
    private void combinedInto(String sentence, int to, int how, char f, char g, char want) {
        Run run = run(sentence + " into " + to);
        put(run, 0, f);
        put(run, 1, g);
        if (to > 1) {
            run.puts(to, 0, 1, 2048, FULL);
        }
        dueCombined(run, to, how, 0, 1, want);
        due(run, 0, to == 0 && want != '-' ? want : f);
        due(run, 1, to == 1 && want != '-' ? want : g);
    }

    private void combinedWithItself(String sentence, int to, int how, char f, char want) {
        Run run = run(sentence + " on one shelf, into " + to);
        put(run, 0, f);
        dueCombined(run, to, how, 0, 0, want);
        due(run, 0, to == 0 && want != '-' ? want : f);
    }

    private static void dueCombined(Run run, int to, int how, int f, int g, char want) {
        if (want == '-') {
            run.dueThrow(ArithmeticException.class, "combine", to, how, f, g);
        } else {
            run.due(countOf(want), "combine", to, how, f, g);
            due(run, to, want);
        }
    }

    private void changed() {
        for (int e = 0; e < 12; e++) {
            int bit = 1 << e;
            for (int to : new int[] {0, 9}) {
                for (int how = 0; how <= 2; how++) {
                    changedInto(to, how, 'N', e);
                }
                changedInto(to, 0, 'E', e);
                changedInto(to, 1, 'E', e, 0);
                changedInto(to, 2, 'E', e, bit);
                changedInto(to, 0, 'F', e, FULL - bit);
                changedInto(to, 1, 'F', e);
                changedInto(to, 2, 'F', e, FULL - bit);
                changedFromAll(to, e);
            }
        }
    }

    private void changedInto(int to, int how, char f, int e, int... want) {
        Run run = run("6 change of " + f + " by " + e + " into " + to);
        put(run, 0, f);
        run.due(want.length, "change", to, how, 0, e).dueSets(to, want);
        if (to != 0) {
            due(run, 0, f);
        }
    }

    /** There are 2048 sets without e: a family of so many, none of which has e, is that of all of them. */
    private void changedFromAll(int to, int e) {
        for (int how = 0; how <= 1; how++) {
            Run run = run("6 change of A by " + e + " into " + to);
            put(run, 0, 'A');
            run.due(2048, "change", to, how, 0, e).due(2048, "count", to);
            run.due(0, "change", 7, 0, to, e).due(2048, "change", 7, 1, to, e);
        }
        Run run = run("6 change of A by " + e + " into " + to);
        put(run, 0, 'A');
        run.due(4096, "change", to, 2, 0, e).due(4096, "count", to);
    }

    private void extremes() {
        String families = "NEFAB";
        String greatest = "NEFFF";
        String least = "NEFEE";
        for (int i = 0; i < families.length(); i++) {
            for (int to : new int[] {0, 9}) {
                extremeInto(to, families.charAt(i), 1, greatest.charAt(i));
                extremeInto(to, families.charAt(i), 0, least.charAt(i));
            }
        }
    }

    private void extremeInto(int to, char f, int which, char want) {
        Run run = run("7 extreme of " + f + " into " + to);
        put(run, 0, f);
        run.due(countOf(want), "extreme", to, 0, which);
        due(run, to, want);
        due(run, 0, to == 0 ? want : f);
    }

    private void sized() {
        for (int n = 0; n <= 12; n++) {
            for (int to : new int[] {0, 9}) {
                sizedInto(to, n, 'N', 'N');
                sizedInto(to, n, 'E', n == 0 ? 'E' : 'N');
                sizedInto(to, n, 'F', n == 12 ? 'F' : 'N');
                sizedInto(to, n, 'B', n == 0 ? 'E' : n == 12 ? 'F' : 'N');
            }
            Run run = run("8 sized of A");
            put(run, 0, 'A');
            run.due(BINOMIALS[n], "sized", 1, 0, n).due(BINOMIALS[n], "count", 1);
            run.due(BINOMIALS[n], "sized", 1, 1, n).due(0, "sized", 2, 1, n == 0 ? 1 : n - 1);
            run.due(BINOMIALS[n], "sized", 0, 0, n).due(0, "combine", 0, 2, 0, 1);
        }
    }

    private void sizedInto(int to, int n, char f, char want) {
        Run run = run("8 sized " + n + " of " + f + " into " + to);
        put(run, 0, f);
        run.due(countOf(want), "sized", to, 0, n);
        due(run, to, want);
        due(run, 0, to == 0 ? want : f);
    }

    private void putAndTake() {
        for (int set : new int[] {0, 1, 63, 64, 2048, FULL - 1, FULL}) {
            Run run = run("2 put, 3 take, of N and A");
            put(run, 0, 'A');
            run.due(false, "put", 0, set).due(4096, "count", 0);
            run.due(true, "take", 0, set).due(4095, "count", 0).due(false, "has", 0, set);
            run.due(false, "take", 0, set).due(4095, "count", 0);
            run.due(true, "put", 0, set).due(4096, "count", 0);
            run.due(false, "take", 1, set).due(0, "count", 1);
            run.due(true, "put", 1, set).due(1, "count", 1).due(true, "has", 1, set);
            run.due(false, "put", 1, set).due(1, "count", 1);
            run.due(true, "take", 1, set).due(0, "count", 1);
        }
    }

    private void clear() {
        for (char letter : "NEFAB".toCharArray()) {
            Run run = run("4 clear of " + letter);
            put(run, 0, letter);
            put(run, 9, letter);
            run.due(countOf(letter), "clear", 0);
            due(run, 0, 'N');
            due(run, 9, letter);
            run.due(0, "clear", 0).due(countOf(letter), "clear", 9).due(0, "clear", 9);
        }
    }

    /** What the shelf had before is gone. */
    private void pathsAndMatchings() {
        for (char letter : LETTERS.toCharArray()) {
            Run run = run("11 paths, 12 matchings on a shelf with " + letter);
            for (int shelf = 0; shelf < 5; shelf++) {
                put(run, shelf, letter);
            }
            run.due(0, "paths", 0, 0, 6).dueSets(0);
            run.due(1, "paths", 1, 6, 6).dueSets(1, 0);
            run.due(1, "matchings", 2).dueSets(2, 0);
            run.make("edge", 11, 6, 0);
            run.due(1, "paths", 3, 0, 6).dueSets(3, 2048);
            run.due(2, "matchings", 4).dueSets(4, 0, 2048);
        }
    }

    private void readOnly() {
        Run run = run("calls that only read");
        for (int shelf = 0; shelf < LETTERS.length(); shelf++) {
            put(run, shelf, LETTERS.charAt(shelf));
        }
        run.due(0, "count", 0).due(1, "count", 1).due(1, "count", 2).due(4096, "count", 3);
        run.due(-1, "nth", 0, 0).due(0, "nth", 1, 0).due(FULL, "nth", 2, 0).due(0, "nth", 3, 0);
        run.due(-1, "nth", 1, 1).due(-1, "nth", 2, 1).due(FULL, "nth", 3, 4095).due(-1, "nth", 3, 4096);
        run.due(0, "rank", 0, 0).due(0, "rank", 1, 0).due(0, "rank", 2, 0).due(0, "rank", 3, 0);
        run.due(0, "rank", 0, FULL).due(1, "rank", 1, FULL).due(0, "rank", 2, FULL).due(4095, "rank", 3, FULL);
        run.dueThrow(NoSuchElementException.class, "heaviest", 0);
        run.due(0, "heaviest", 1).due(FULL, "heaviest", 2).due(0, "heaviest", 3);
        run.due(0, "size", 0).due(0, "size", 1).due(12, "size", 2).due(12, "size", 3);
        run.due(-1, "parts", 0).due(-1, "parts", 1).due(-1, "parts", 2).due(0, "parts", 3);
        for (int shelf = 0; shelf < LETTERS.length(); shelf++) {
            due(run, shelf, LETTERS.charAt(shelf));
        }
    }
}
