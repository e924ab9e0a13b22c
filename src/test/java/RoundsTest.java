import java.util.NoSuchElementException;

/** Promises 7 to 10: day, roundSize, roundAt, roundMinutes; and how rounds are made. */
public final class RoundsTest {
    public static void main(String[] args) {
        dayCounts();
        noRoundsOnDayZero();
        nearestFirst();
        lowestNumberOfSeveral();
        onlyWhatFits();
        nearestOfThoseThatFit();
        languages();
        oneBehindTheOther();
        refusedInterviewers();
        wantedLater();
        notToldIsWantedStill();
        barredHaveNone();
        longestRound();
        errors();
        Expect.end();
    }

    private static void expectRound(String what, Study book, int interviewer, int minutes, int... houses) {
        Expect.same(what + ": size", book.roundSize(interviewer), houses.length);
        Expect.same(what + ": minutes", book.roundMinutes(interviewer), minutes);
        for (int index = 0; index < houses.length && index < book.roundSize(interviewer); index++) {
            Expect.same(what + ": at " + index, book.roundAt(interviewer, index), houses[index]);
        }
    }

    private static void dayCounts() {
        Study book = new Study();
        for (int day = 0; day < 99; day++) {
            Expect.same("7 day", book.day(), day);
            book.endDay();
        }
        Expect.same("7 last day", book.day(), 99);
    }

    private static void noRoundsOnDayZero() {
        Study book = Studies.drawn(10, 20);
        book.addInterviewer(10, 1, 600);
        expectRound("8 day 0", book, 0, 0);
        book.endDay();
        expectRound("8 day 1", book, 0, 80, 0, 1);
    }

    private static void nearestFirst() {
        Study book = Studies.drawn(90, 10, 47, 55);
        book.addInterviewer(50, 1, 600);
        book.endDay();
        // From 50 to 47, 55, 90 and 10, and home: 3 + 8 + 35 + 80 + 40 minutes on the way.
        expectRound("9 nearest first", book, 0, 166 + 120, 2, 3, 0, 1);
    }

    private static void lowestNumberOfSeveral() {
        Study book = Studies.drawn(60, 40, 60, 50, 40);
        book.addInterviewer(50, 1, 600);
        book.endDay();
        expectRound("9 lowest number", book, 0, 150 + 40, 3, 0, 2, 1, 4);
    }

    private static void onlyWhatFits() {
        Study book = Studies.drawn(35);
        book.addInterviewer(0, 1, 99);
        book.addInterviewer(0, 1, 100);
        book.endDay();
        expectRound("8 one minute short", book, 0, 0);
        expectRound("8 just fits", book, 1, 100, 0);
        Study two = Studies.drawn(10, 20);
        two.addInterviewer(0, 1, 99);
        two.endDay();
        expectRound("8 the second is one minute too long", two, 0, 50, 0);
        Study both = Studies.drawn(10, 20);
        both.addInterviewer(0, 1, 100);
        both.endDay();
        expectRound("8 the second fits", both, 0, 100, 0, 1);
    }

    private static void nearestOfThoseThatFit() {
        // Behind the house at 20, the one at 31 is nearer than that at 8, but the way home is too long.
        Study book = Studies.drawn(20, 31, 8);
        book.addInterviewer(0, 1, 112);
        book.addInterviewer(99, 1, 30);
        book.endDay();
        expectRound("9 the house at 8 is nearest to the home", book, 0, 100, 2, 0);
        Study far = Studies.drawn(20, 31, 6);
        far.addInterviewer(14, 1, 84);
        far.endDay();
        // 6 minutes to 20; from there 11 + 30 + 17 are too many, 14 + 30 + 8 are not (36 + 52 > 84).
        expectRound("9 no second one", far, 0, 42, 0);
        Study fits = Studies.drawn(20, 31, 6);
        fits.addInterviewer(14, 1, 88);
        fits.endDay();
        expectRound("9 the farther one fits", fits, 0, 88, 0, 2);
    }

    private static void languages() {
        Study book = new Study();
        book.addStratum();
        for (int house = 0; house < 6; house++) {
            book.addHouse(0, house, house % 3);
        }
        book.draw(0, 6);
        book.addInterviewer(0, 4, 600);
        book.addInterviewer(0, 1, 600);
        book.addInterviewer(0, 3, 600);
        book.endDay();
        expectRound("9 language 2", book, 0, 70, 2, 5);
        expectRound("9 language 0", book, 1, 66, 0, 3);
        expectRound("9 languages 0 and 1", book, 2, 68, 1, 4);
    }

    private static void oneBehindTheOther() {
        Study book = Studies.drawn(0, 50, 99);
        book.addInterviewer(50, 1, 129);
        book.addInterviewer(50, 1, 600);
        book.endDay();
        expectRound("9 the first takes what fits", book, 0, 30, 1);
        expectRound("9 the second the rest", book, 1, 60 + 49 + 99 + 50, 2, 0);
    }

    private static void refusedInterviewers() {
        Study book = Studies.drawn(50);
        book.addInterviewer(50, 1, 600);
        book.endDay();
        book.visit(0, 'r', 0);
        Studies.endDays(book, 3);
        expectRound("9 refused this interviewer", book, 0, 0);
        book.addInterviewer(50, 1, 600);
        book.endDay();
        expectRound("9 never again", book, 0, 0);
        expectRound("9 another one", book, 1, 30, 0);
    }

    private static void wantedLater() {
        Study book = Studies.drawn(50, 60);
        book.addInterviewer(50, 1, 600);
        book.endDay();
        book.visit(0, 'n', 0);
        book.visit(1, 'a', 0);
        book.endDay();
        expectRound("9 the next day", book, 0, 30, 0);
        book.visit(0, 'n', 0);
        book.endDay();
        expectRound("9 not yet", book, 0, 0);
        book.endDay();
        expectRound("9 the second next day", book, 0, 30, 0);
        book.visit(0, 'a', 0);
        expectRound("8 the round stays as it was made", book, 0, 30, 0);
    }

    private static void notToldIsWantedStill() {
        Study book = Studies.drawn(50);
        book.addInterviewer(50, 1, 600);
        Studies.endDays(book, 5);
        expectRound("9 not told", book, 0, 30, 0);
        Expect.same("9 wanted from the same day", book.wantedFrom(0), 1);
        Expect.same("9 no visit", book.codeOf(0), 300);
    }

    private static void barredHaveNone() {
        Study book = Studies.drawn(50, 51, 52);
        book.addInterviewer(50, 1, 600);
        book.addInterviewer(50, 1, 600);
        book.endDay();
        book.visit(0, 'a', 1);
        book.visit(1, 'a', 1);
        book.check(0, 2);
        book.check(1, 2);
        expectRound("8 the round of this day stays", book, 0, 94, 0, 1, 2);
        book.endDay();
        expectRound("8 barred", book, 0, 0);
        expectRound("8 the next one takes them", book, 1, 94, 0, 1, 2);
    }

    private static void longestRound() {
        Study book = Studies.drawn(new int[24]);
        book.addInterviewer(0, 1, 600);
        book.addInterviewer(0, 1, 600);
        book.endDay();
        Expect.same("8 longest", book.roundSize(0), 20);
        Expect.same("10 longest", book.roundMinutes(0), 600);
        Expect.same("9 its last", book.roundAt(0, 19), 19);
        expectRound("9 the rest", book, 1, 120, 20, 21, 22, 23);
    }

    private static void errors() {
        Study book = Studies.drawn(50);
        for (int number : new int[] {-1, 0, 4, Integer.MAX_VALUE, Integer.MIN_VALUE}) {
            Expect.failsAlone(book, "8 none", IndexOutOfBoundsException.class, () -> book.roundSize(number));
            Expect.failsAlone(book, "9 none", IndexOutOfBoundsException.class, () -> book.roundAt(number, 0));
            Expect.failsAlone(book, "10 none", IndexOutOfBoundsException.class, () -> book.roundMinutes(number));
        }
        book.addInterviewer(50, 1, 600);
        Expect.failsAlone(book, "9 day 0", NoSuchElementException.class, () -> book.roundAt(0, 0));
        book.endDay();
        Expect.same("9 in the round", book.roundAt(0, 0), 0);
        for (int index : new int[] {-1, 1, 24, Integer.MAX_VALUE, Integer.MIN_VALUE}) {
            Expect.failsAlone(book, "9 place", NoSuchElementException.class, () -> book.roundAt(0, index));
            Expect.failsAlone(book, "9 interviewer first", IndexOutOfBoundsException.class,
                    () -> book.roundAt(1, index));
        }
    }
}
