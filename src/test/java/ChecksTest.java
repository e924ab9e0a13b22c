/** Promises 12, 13, 18 and 19: check, endDay, faults, answersTo. */
public final class ChecksTest {
    public static void main(String[] args) {
        sameAnswer();
        faultsAddUp();
        barring();
        checkedOncePerAnswer();
        checkErrors();
        endDayReplaces();
        replacementsByRisingNumbers();
        nothingToReplaceWith();
        lastDay();
        askErrors();
        Expect.end();
    }

    private static Study onDayOne(int... places) {
        Study book = Studies.drawn(places);
        book.addInterviewer(50, 1, 150);
        book.addInterviewer(50, 1, 600);
        book.endDay();
        return book;
    }

    private static void sameAnswer() {
        Study book = onDayOne(50);
        book.visit(0, 'a', 6);
        Expect.same("12 the same", book.check(0, 6), true);
        Expect.same("18 no fault", book.faults(0), 0);
        Expect.same("19 one answer", book.answersTo(0), 1);
        Expect.failsAlone(book, "12 checked already", IllegalStateException.class, () -> book.check(0, 6));
        book.endDay();
        Expect.failsAlone(book, "12 nor later", IllegalStateException.class, () -> book.check(0, 5));
    }

    private static void faultsAddUp() {
        Study book = onDayOne(50);
        book.visit(0, 'a', 6);
        Expect.same("12 another one", book.check(0, 9), false);
        Expect.same("18 one fault", book.faults(0), 1);
        Expect.same("18 not of the other one", book.faults(1), 0);
        Expect.same("17 the first answer is kept", book.answerOf(0), 6);
        Expect.same("19 and counts", book.answersTo(0), 1);
        Expect.failsAlone(book, "12 checked already", IllegalStateException.class, () -> book.check(0, 6));
        book.addHouse(0, 50, 0);
        book.draw(0, 1);
        book.endDay();
        Expect.same("8 one fault does not bar", book.roundSize(0), 1);
        book.visit(1, 'a', 2);
        Expect.same("19 two answers", book.answersTo(0), 2);
    }

    /** Five houses at 50 fill the first interviewer's 150 minutes, the sixth is left for the second one. */
    private static void barring() {
        Study book = onDayOne(50, 50, 50, 50, 50, 50);
        for (int house = 0; house < 4; house++) {
            book.visit(house, 'a', house);
        }
        Expect.same("11 the second one", book.visit(5, 'a', 5), 1);
        Expect.same("19 of the first", book.answersTo(0), 4);
        Expect.same("19 of the second", book.answersTo(1), 1);
        book.check(0, 9);
        Expect.same("12 the answer that bars", book.check(1, 9), false);
        Expect.same("18 two faults", book.faults(0), 2);
        Expect.same("19 none is left", book.answersTo(0), 0);
        Expect.same("19 the other one's are", book.answersTo(1), 1);
        for (int house = 0; house < 4; house++) {
            Expect.same("14 wanted again", book.stateOf(house), 'w');
            Expect.same("15 from the next day on", book.wantedFrom(house), 2);
        }
        Expect.same("14 the other one's answer", book.stateOf(5), 'a');
        Expect.same("15 the untold one", book.wantedFrom(4), 1);
        Expect.failsAlone(book, "11 can't be told", IllegalStateException.class, () -> book.visit(4, 'a', 1));
        Expect.failsAlone(book, "12 the answer is gone", IllegalStateException.class, () -> book.check(2, 1));
        book.endDay();
        Expect.same("8 barred", book.roundSize(0), 0);
        Expect.same("8 all go to the second one", book.roundSize(1), 5);
    }

    private static void checkedOncePerAnswer() {
        Study book = onDayOne(50, 50);
        book.visit(0, 'a', 1);
        book.visit(1, 'a', 1);
        book.check(0, 2);
        book.check(1, 2);
        book.endDay();
        book.visit(0, 'a', 3);
        Expect.same("12 a new answer", book.check(0, 3), true);
        Expect.same("18 the second one has none", book.faults(1), 0);
        Expect.same("18 the first one keeps two", book.faults(0), 2);
        Expect.failsAlone(book, "12 once for it too", IllegalStateException.class, () -> book.check(0, 3));
    }

    private static void checkErrors() {
        Study book = onDayOne(50, 50, 50, 50, 50, 50, 50);
        book.addHouse(0, 50, 0);
        book.visit(0, 'a', 1);
        book.visit(1, 'n', 1);
        book.visit(2, 'r', 1);
        book.visit(3, 'e', 1);
        for (int number : new int[] {-1, 8, 24, Integer.MIN_VALUE, Integer.MAX_VALUE}) {
            Expect.failsAlone(book, "12 house", IndexOutOfBoundsException.class, () -> book.check(number, 10));
        }
        for (int house = 0; house < 8; house++) {
            int asked = house;
            Expect.failsAlone(book, "12 answer 10", IllegalArgumentException.class, () -> book.check(asked, 10));
            Expect.failsAlone(book, "12 answer -1", IllegalArgumentException.class, () -> book.check(asked, -1));
            if (house > 0) {
                Expect.failsAlone(book, "12 not answered", IllegalStateException.class, () -> book.check(asked, 1));
            }
        }
        book.check(0, 1);
        Expect.failsAlone(book, "12 range first", IllegalArgumentException.class, () -> book.check(0, 10));
    }

    private static void endDayReplaces() {
        Study book = new Study();
        book.addStratum();
        book.addStratum();
        for (int house = 0; house < 4; house++) {
            book.addHouse(0, 50, 0);
            book.addHouse(1, 50, 0);
        }
        book.draw(1, 1);
        book.setChance(3);
        book.addInterviewer(50, 7, 600);
        Expect.same("13 nothing to replace", book.endDay(), 0);
        Expect.same("13 the chance number stays", book.setChance(3), 3);
        int first = book.roundAt(0, 0);
        Expect.same("6 of the stratum 1", first, 1);
        book.visit(first, 'e', 0);
        Expect.same("13 one", book.endDay(), 1);
        // 3 * 1103 + 12345 is 15654 and leaves 0 among 3: the first undrawn house of the stratum 1.
        Expect.same("13 the chance number", book.setChance(3), 15654);
        Expect.same("14 drawn to replace", book.stateOf(3), 'w');
        Expect.same("15 from the next day on", book.wantedFrom(3), 2);
        Expect.same("8 in a round at once", book.roundAt(0, 0), 3);
        Expect.same("20 no target of its own", book.target(1), 1000);
        Expect.same("14 the other stratum", book.stateOf(0), 'u');
        Expect.same("13 but once", book.endDay(), 0);
        book.visit(3, 'n', 0);
        Expect.same("13 nobody is no loss", book.endDay(), 0);
        book.visit(3, 'n', 0);
        Studies.endDays(book, 2);
        book.visit(3, 'n', 0);
        Expect.same("13 given up", book.endDay(), 1);
        int next = book.roundAt(0, 0);
        book.visit(next, 'r', 0);
        book.addInterviewer(50, 7, 600);
        Expect.same("13 a first refusal is no loss", book.endDay(), 0);
        Studies.endDays(book, 2);
        Expect.same("11 to another one", book.visit(next, 'r', 0), 1);
        Expect.same("13 refused", book.endDay(), 1);
        Expect.same("20 the target stays", book.target(1), 1000);
    }

    /** Two strata with two undrawn houses each; the losses are told from the last house to the first one. */
    private static void replacementsByRisingNumbers() {
        Study book = new Study();
        book.addStratum();
        book.addStratum();
        book.addHouse(0, 50, 0);
        book.addHouse(1, 50, 0);
        book.draw(0, 1);
        book.draw(1, 1);
        for (int k = 0; k < 3; k++) {
            book.addHouse(0, 50, 0);
        }
        for (int k = 0; k < 2; k++) {
            book.addHouse(1, 50, 0);
        }
        book.addInterviewer(50, 1, 600);
        book.endDay();
        book.visit(1, 'e', 0);
        book.visit(0, 'e', 0);
        book.setChance(2);
        // 14551 leaves 1 among 3 and 5778 leaves 0 among 2; the other way round it would be 1 and 0.
        Expect.same("13 two", book.endDay(), 2);
        Expect.same("13 for the house 0", book.stateOf(3), 'w');
        Expect.same("13 for the house 1", book.stateOf(5), 'w');
        Expect.same("13 none else", book.stateOf(2), 'u');
        Expect.same("13 none else", book.stateOf(4), 'u');
        Expect.same("13 none else", book.stateOf(6), 'u');
    }

    private static void nothingToReplaceWith() {
        Study book = Studies.drawn(50, 50, 50);
        book.addHouse(0, 50, 0);
        book.addInterviewer(50, 1, 600);
        book.endDay();
        book.visit(0, 'e', 0);
        book.visit(1, 'e', 0);
        book.visit(2, 'a', 0);
        book.setChance(7);
        Expect.same("13 one for two", book.endDay(), 1);
        Expect.same("13 one step of the chance number", book.setChance(7), 7 * 1103 + 12345);
        Expect.same("14 the only one", book.stateOf(3), 'w');
        book.visit(3, 'e', 0);
        Expect.same("13 none", book.endDay(), 0);
        Expect.same("13 no step", book.setChance(1), 7);
        book.addHouse(0, 50, 0);
        Expect.same("13 not on a later day", book.endDay(), 0);
    }

    private static void lastDay() {
        Study book = Studies.drawn(50, 50);
        book.addInterviewer(50, 1, 600);
        Studies.endDays(book, 99);
        book.addHouse(0, 50, 0);
        book.visit(0, 'e', 0);
        book.visit(1, 'r', 0);
        Expect.failsAlone(book, "13 day 99", IllegalStateException.class, book::endDay);
        Expect.same("13 nothing is drawn", book.stateOf(2), 'u');
        Expect.same("15 behind the last day", book.wantedFrom(1), 102);
        book.draw(0, 1);
        Expect.same("6 behind the last day", book.wantedFrom(2), 100);
    }

    private static void askErrors() {
        Study book = new Study();
        book.addInterviewer(0, 1, 30);
        for (int number : new int[] {-1, 1, 4, Integer.MIN_VALUE, Integer.MAX_VALUE}) {
            Expect.fails("18 number", IndexOutOfBoundsException.class, () -> book.faults(number));
            Expect.fails("19 number", IndexOutOfBoundsException.class, () -> book.answersTo(number));
        }
        Expect.same("19 none", book.answersTo(0), 0);
    }
}
