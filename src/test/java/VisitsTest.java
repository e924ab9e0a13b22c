import java.util.NoSuchElementException;

/** Promises 11 and 14 to 17: visit, stateOf, wantedFrom, codeOf, answerOf. */
public final class VisitsTest {
    public static void main(String[] args) {
        answers();
        nobodyThere();
        refusals();
        emptyHouse();
        countsGoOnAcrossALostAnswer();
        refusedInterviewerStaysAcrossALostAnswer();
        visitErrors();
        barredInterviewer();
        askErrors();
        Expect.end();
    }

    private static Study onDayOne(int... places) {
        Study book = Studies.drawn(places);
        book.addInterviewer(50, 1, 600);
        book.addInterviewer(50, 1, 600);
        book.endDay();
        return book;
    }

    private static void answers() {
        Study book = onDayOne(0, 50, 99);
        Expect.same("11 the interviewer", book.visit(0, 'a', 0), 0);
        Expect.same("14 answered", book.stateOf(0), 'a');
        Expect.same("16 first visit", book.codeOf(0), 110);
        Expect.same("17 lowest", book.answerOf(0), 0);
        book.visit(1, 'a', 9);
        Expect.same("17 highest", book.answerOf(1), 9);
        book.visit(2, 'n', 5);
        Expect.fails("17 none", NoSuchElementException.class, () -> book.answerOf(2));
        book.endDay();
        book.visit(2, 'a', 7);
        Expect.same("16 later visit", book.codeOf(2), 120);
        Expect.same("17 later visit", book.answerOf(2), 7);

        Study two = Studies.drawn(10, 90);
        two.addInterviewer(10, 1, 30);
        two.addInterviewer(90, 1, 30);
        two.endDay();
        Expect.same("11 the second interviewer", two.visit(1, 'a', 3), 1);
        Expect.same("11 the first interviewer", two.visit(0, 'e', 3), 0);
    }

    private static void nobodyThere() {
        Study book = onDayOne(50);
        book.visit(0, 'n', 0);
        Expect.same("11 first: the next day", book.wantedFrom(0), 2);
        Expect.same("14 wanted", book.stateOf(0), 'w');
        Expect.same("16 one visit", book.codeOf(0), 301);
        book.endDay();
        book.visit(0, 'n', 0);
        Expect.same("11 second: the second next day", book.wantedFrom(0), 4);
        Expect.same("16 two visits", book.codeOf(0), 302);
        Studies.endDays(book, 2);
        book.visit(0, 'n', 0);
        Expect.same("14 given up", book.stateOf(0), 'g');
        Expect.same("16 given up", book.codeOf(0), 220);
        Expect.fails("15 not wanted", IllegalStateException.class, () -> book.wantedFrom(0));
        Studies.endDays(book, 5);
        Expect.same("14 given up for good", book.stateOf(0), 'g');
        Expect.same("8 in no round", book.roundSize(0), 0);
    }

    private static void refusals() {
        Study book = onDayOne(50);
        book.visit(0, 'r', 0);
        Expect.same("14 wanted", book.stateOf(0), 'w');
        Expect.same("15 the third next day", book.wantedFrom(0), 4);
        Expect.same("16 one visit", book.codeOf(0), 301);
        Studies.endDays(book, 2);
        Expect.same("8 not yet", book.roundSize(1), 0);
        book.endDay();
        Expect.same("11 to the other one", book.visit(0, 'r', 0), 1);
        Expect.same("14 refused", book.stateOf(0), 'r');
        Expect.same("16 refused", book.codeOf(0), 210);
        Expect.fails("15 not wanted", IllegalStateException.class, () -> book.wantedFrom(0));

        Study mixed = onDayOne(50);
        mixed.visit(0, 'n', 0);
        mixed.endDay();
        mixed.visit(0, 'r', 0);
        Expect.same("15 a first refusal behind nobody", mixed.wantedFrom(0), 5);
        Studies.endDays(mixed, 3);
        mixed.visit(0, 'n', 0);
        Expect.same("15 a second nobody behind a refusal", mixed.wantedFrom(0), 7);
        Expect.same("16 three visits", mixed.codeOf(0), 303);
    }

    private static void emptyHouse() {
        Study book = onDayOne(50);
        book.visit(0, 'e', 9);
        Expect.same("14 empty", book.stateOf(0), 'e');
        Expect.same("16 empty", book.codeOf(0), 400);
        Expect.fails("15 not wanted", IllegalStateException.class, () -> book.wantedFrom(0));
        Expect.fails("17 no answer", NoSuchElementException.class, () -> book.answerOf(0));
    }

    /** Nobody twice, then two answers that are lost, then nobody for the third time. */
    private static void countsGoOnAcrossALostAnswer() {
        Study book = onDayOne(50, 51);
        book.visit(0, 'n', 0);
        book.endDay();
        book.visit(0, 'n', 0);
        Studies.endDays(book, 2);
        book.visit(0, 'a', 1);
        book.visit(1, 'a', 1);
        book.check(0, 2);
        book.check(1, 2);
        Expect.same("14 wanted again", book.stateOf(0), 'w');
        Expect.same("15 from the next day on", book.wantedFrom(0), 5);
        Expect.same("16 told visits are kept", book.codeOf(0), 303);
        Expect.same("16 of each house", book.codeOf(1), 301);
        Expect.fails("17 the answer is gone", NoSuchElementException.class, () -> book.answerOf(0));
        book.endDay();
        book.visit(1, 'a', 4);
        Expect.same("16 in a later visit", book.codeOf(1), 120);
        Expect.same("17 the new answer", book.answerOf(1), 4);
        Expect.same("11 the other interviewer", book.visit(0, 'n', 0), 1);
        Expect.same("14 given up behind the third one", book.stateOf(0), 'g');
    }

    private static void refusedInterviewerStaysAcrossALostAnswer() {
        Study book = onDayOne(50, 51);
        book.visit(0, 'r', 0);
        book.visit(1, 'a', 1);
        Studies.endDays(book, 3);
        Expect.same("11 taken by the other", book.visit(0, 'a', 1), 1);
        Studies.endDays(book, 1);
        book.check(0, 2);
        book.endDay();
        Expect.same("8 nothing is wanted", book.roundSize(1), 0);
        Study lost = onDayOne(50, 51, 52);
        lost.visit(0, 'r', 0);
        lost.visit(1, 'r', 0);
        Studies.endDays(lost, 3);
        lost.visit(0, 'a', 1);
        lost.visit(1, 'a', 1);
        lost.check(0, 0);
        lost.check(1, 0);
        lost.endDay();
        Expect.same("8 both refused the first one", lost.roundSize(0), 1);
        lost.addInterviewer(50, 1, 600);
        lost.endDay();
        Expect.same("8 a third one", lost.roundSize(2), 2);
        lost.visit(0, 'r', 0);
        Expect.same("14 a second refusal behind a lost answer", lost.stateOf(0), 'r');
    }

    private static void visitErrors() {
        Study book = Studies.drawn(50, 99);
        book.addInterviewer(50, 1, 30);
        book.addHouse(0, 50, 0);
        Expect.failsAlone(book, "11 day 0", IllegalStateException.class, () -> book.visit(0, 'a', 1));
        book.endDay();
        for (int number : new int[] {-1, 3, 24, Integer.MIN_VALUE, Integer.MAX_VALUE}) {
            Expect.failsAlone(book, "11 house", IndexOutOfBoundsException.class, () -> book.visit(number, 'x', 10));
        }
        for (char outcome : new char[] {'b', 'g', 'u', 'w', 'c', 'A', 0, 65535}) {
            Expect.failsAlone(book, "11 outcome", IllegalArgumentException.class, () -> book.visit(0, outcome, 1));
            Expect.failsAlone(book, "11 outcome first", IllegalArgumentException.class,
                    () -> book.visit(1, outcome, 1));
        }
        for (char outcome : new char[] {'a', 'n', 'r', 'e'}) {
            Expect.failsAlone(book, "11 answer 10", IllegalArgumentException.class, () -> book.visit(0, outcome, 10));
            Expect.failsAlone(book, "11 answer -1", IllegalArgumentException.class, () -> book.visit(0, outcome, -1));
            Expect.failsAlone(book, "11 range first", IllegalArgumentException.class,
                    () -> book.visit(1, outcome, 10));
            Expect.failsAlone(book, "11 in no round", IllegalStateException.class, () -> book.visit(1, outcome, 0));
            Expect.failsAlone(book, "11 undrawn", IllegalStateException.class, () -> book.visit(2, outcome, 0));
        }
        book.visit(0, 'n', 0);
        Expect.failsAlone(book, "11 told already", IllegalStateException.class, () -> book.visit(0, 'a', 0));
        book.endDay();
        Expect.same("11 told once a day", book.visit(0, 'a', 0), 0);
    }

    private static void barredInterviewer() {
        Study book = onDayOne(50, 51, 52);
        book.visit(0, 'a', 1);
        book.visit(1, 'a', 1);
        book.check(0, 0);
        book.check(1, 0);
        Expect.failsAlone(book, "11 barred", IllegalStateException.class, () -> book.visit(2, 'a', 1));
        Expect.same("15 untold stays wanted", book.wantedFrom(2), 1);
        Expect.failsAlone(book, "11 lost on this day", IllegalStateException.class, () -> book.visit(0, 'a', 1));
        book.endDay();
        Expect.same("11 by the other one", book.visit(2, 'a', 1), 1);
    }

    private static void askErrors() {
        Study book = new Study();
        Expect.fails("14 none", IndexOutOfBoundsException.class, () -> book.stateOf(0));
        book.addStratum();
        book.addHouse(0, 0, 0);
        for (int number : new int[] {-1, 1, 24, Integer.MIN_VALUE, Integer.MAX_VALUE}) {
            Expect.fails("14 number", IndexOutOfBoundsException.class, () -> book.stateOf(number));
            Expect.fails("15 number", IndexOutOfBoundsException.class, () -> book.wantedFrom(number));
            Expect.fails("16 number", IndexOutOfBoundsException.class, () -> book.codeOf(number));
            Expect.fails("17 number", IndexOutOfBoundsException.class, () -> book.answerOf(number));
        }
        Expect.same("14 undrawn", book.stateOf(0), 'u');
        Expect.same("16 undrawn", book.codeOf(0), 0);
        Expect.fails("15 undrawn", IllegalStateException.class, () -> book.wantedFrom(0));
        Expect.fails("17 undrawn", NoSuchElementException.class, () -> book.answerOf(0));
        book.draw(0, 1);
        Expect.fails("17 wanted", NoSuchElementException.class, () -> book.answerOf(0));
        book.addInterviewer(0, 1, 30);
        book.endDay();
        book.visit(0, 'a', 1);
        Expect.fails("15 answered", IllegalStateException.class, () -> book.wantedFrom(0));
    }
}
