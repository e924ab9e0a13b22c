import java.util.NoSuchElementException;

/** Calls that have to be refused, and to change nothing, by the exception that is due. */
final class Refused {
    private Refused() {
    }

    static void index(Study study, String what, Expect.Call call) {
        Expect.failsAlone(study, what, IndexOutOfBoundsException.class, call);
    }

    static void argument(Study study, String what, Expect.Call call) {
        Expect.failsAlone(study, what, IllegalArgumentException.class, call);
    }

    static void state(Study study, String what, Expect.Call call) {
        Expect.failsAlone(study, what, IllegalStateException.class, call);
    }

    static void element(Study study, String what, Expect.Call call) {
        Expect.failsAlone(study, what, NoSuchElementException.class, call);
    }

    static void arithmetic(Study study, String what, Expect.Call call) {
        Expect.failsAlone(study, what, ArithmeticException.class, call);
    }
}
