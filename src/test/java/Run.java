import java.util.ArrayList;
import java.util.List;

/** A new object and the calls that are made on it, each by its name and its numbers (1 and 0 for true and false). */
final class Run {
    /** The document promises no more for one object. */
    static final int MOST_CALLS = 512;

    private final FamilyShelf x = new FamilyShelf();
    private final Checks checks;
    private final String sentence;
    private int calls;

    /** The sentence of the document that the run is made for stands before every wrong answer that is told. */
    Run(Checks checks, String sentence) {
        this.checks = checks;
        this.sentence = sentence;
    }

    Run due(Object want, String name, int... numbers) {
        checks.due(sentence + ": " + written(name, numbers), answer(name, numbers), String.valueOf(want));
        return this;
    }

    Run dueThrow(Class<? extends Exception> want, String name, int... numbers) {
        return due("throws." + want.getSimpleName(), name, numbers);
    }

    /** A call whose answer is looked at elsewhere; it must not throw. */
    Run make(String name, int... numbers) {
        String answer = answer(name, numbers);
        if (answer.startsWith("throws.")) {
            checks.due(sentence + ": " + written(name, numbers), answer, "an answer");
        }
        return this;
    }

    Run puts(int shelf, int... sets) {
        for (int set : sets) {
            make("put", shelf, set);
        }
        return this;
    }

    /** The shelf gets all sets; the other one is used on the way, and has none in the end. */
    Run putsAll(int shelf, int other) {
        make("put", shelf, 0);
        for (int e = 0; e < 12; e++) {
            make("change", other, 2, shelf, e);
            make("combine", shelf, 0, shelf, other);
        }
        return make("clear", other);
    }

    /** The shelf has these sets, in this order, and no others. */
    Run dueSets(int shelf, int... sets) {
        due(sets.length, "count", shelf);
        for (int i = 0; i < sets.length; i++) {
            due(sets[i], "nth", shelf, i);
        }
        return this;
    }

    int number(String name, int... numbers) {
        return Integer.parseInt(answer(name, numbers));
    }

    int callsLeft() {
        return MOST_CALLS - calls;
    }

    /** All that the object holds, as text. The calls that find it out change edges, weights and shelf 9. */
    String state() {
        StringBuilder text = new StringBuilder();
        for (int shelf = 0; shelf < 10; shelf++) {
            text.append(" shelf ").append(shelf).append(family(shelf));
        }
        for (int u = 0; u < 7; u++) {
            for (int v = u + 1; v < 7; v++) {
                make("paths", 9, u, v).make("sized", 9, 9, 1);
                text.append(" edges ").append(u).append("-").append(v).append(family(9));
            }
        }
        text.append(" weights");
        for (int e = 0; e < 12; e++) {
            text.append(" ").append(number("weight", e, 0));
        }
        return text.toString();
    }

    /** Of a family with all sets the count says enough, and no other one of a test's is large before it is changed. */
    private List<Integer> family(int shelf) {
        int count = number("count", shelf);
        List<Integer> found = new ArrayList<>();
        found.add(count);
        for (int i = 0; i < count && count <= 20; i++) {
            found.add(number("nth", shelf, i));
        }
        return found;
    }

    private String answer(String name, int... n) {
        calls++;
        if (calls > MOST_CALLS) {
            checks.due(sentence + ": calls of one object", calls, MOST_CALLS);
        }
        return Checks.answerOf(() -> answerOf(name, n));
    }

    private Object answerOf(String name, int... n) {
        switch (name) {
            case "put": return x.put(n[0], n[1]);
            case "take": return x.take(n[0], n[1]);
            case "clear": return x.clear(n[0]);
            case "combine": return x.combine(n[0], n[1], n[2], n[3]);
            case "change": return x.change(n[0], n[1], n[2], n[3]);
            case "extreme": return x.extreme(n[0], n[1], n[2] != 0);
            case "sized": return x.sized(n[0], n[1], n[2]);
            case "edge": x.edge(n[0], n[1], n[2]); return "nothing";
            case "cut": return x.cut(n[0]);
            case "paths": return x.paths(n[0], n[1], n[2]);
            case "matchings": return x.matchings(n[0]);
            case "weight": return x.weight(n[0], n[1]);
            case "count": return x.count(n[0]);
            case "has": return x.has(n[0], n[1]);
            case "nth": return x.nth(n[0], n[1]);
            case "rank": return x.rank(n[0], n[1]);
            case "heaviest": return x.heaviest(n[0]);
            case "size": return x.size(n[0]);
            case "parts": return x.parts(n[0]);
            default: throw new AssertionError("no call " + name);
        }
    }

    private static String written(String name, int... numbers) {
        List<String> texts = new ArrayList<>();
        for (int number : numbers) {
            texts.add(Integer.toString(number));
        }
        return name + "(" + String.join(", ", texts) + ")";
    }
}
