import java.util.LinkedHashSet;
import java.util.Set;

/** The sentences of the document that name a boundary case, each with a test of its own. */
final class Sentences {
    /** The number under which the sentences of the section 'Terms' stand. */
    static final int TERMS = 0;

    private static final Set<String> tested = new LinkedHashSet<>();

    private Sentences() {
    }

    /** A sentence that names several cases may be held by several tests. */
    static void holds(int promise, String sentence, Runnable test) {
        tested.add(key(promise, sentence));
        Expect.begin(key(promise, sentence));
        int before = Expect.checked();
        Object end = Expect.outcomeOf(() -> {
            test.run();
            return "its end";
        });
        Expect.same("looks at an answer", Expect.checked() > before, true);
        Expect.same("the test comes to", end, "its end");
        Expect.begin("");
    }

    static String key(int promise, String sentence) {
        return (promise == TERMS ? "Terms" : "Promise " + promise) + ": " + sentence;
    }

    static Set<String> all() {
        return tested;
    }
}
