import java.util.List;
import java.util.NoSuchElementException;

/** Counts the answers that are not the ones that are due. */
final class Expect {
    private static final List<Class<?>> DOCUMENTED = List.of(IllegalArgumentException.class,
            IllegalStateException.class, IndexOutOfBoundsException.class, NoSuchElementException.class,
            ArithmeticException.class);

    private static int checked = 0;
    private static int wrong = 0;
    private static String heading = "";

    interface Call {
        Object answer();
    }

    private Expect() {
    }

    /** What is wrong from here on is told under this heading. */
    static void begin(String next) {
        heading = next.isEmpty() ? "" : next + "\n    ";
    }

    static void same(String what, Object got, Object due) {
        checked++;
        if (!due.equals(got)) {
            wrong++;
            System.out.println(heading + what + ": answered " + got + ", due is " + due);
        }
    }

    /** The exception has to be of this very class: what the machine throws is of a class below it. */
    static void fails(String what, Class<? extends RuntimeException> due, Call call) {
        same(what, outcomeOf(call), due);
    }

    /** The call has to fail and to change nothing that can be asked, now or when the study goes on. */
    static void failsAlone(Study study, String what, Class<? extends RuntimeException> due, Call call) {
        String before = Picture.of(study);
        fails(what, due, call);
        same(what + " changes nothing", Picture.of(study), before);
    }

    /** The answer, or the class of what is thrown; what the machine throws is wrong wherever it comes from. */
    static Object outcomeOf(Call call) {
        try {
            return call.answer();
        } catch (RuntimeException thrown) {
            if (isOfTheMachine(thrown)) {
                wrong++;
                System.out.println(heading + "thrown by no statement: " + thrown);
            }
            return thrown.getClass();
        }
    }

    private static boolean isOfTheMachine(RuntimeException thrown) {
        return !DOCUMENTED.contains(thrown.getClass()) || "/ by zero".equals(thrown.getMessage());
    }

    static int checked() {
        return checked;
    }

    static void end() {
        System.out.println(checked + " answers looked at, " + wrong + " wrong");
        if (wrong != 0 || checked == 0) {
            System.exit(1);
        }
    }
}
