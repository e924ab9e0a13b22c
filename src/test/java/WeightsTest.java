import java.util.NoSuchElementException;

/** Promises 20 to 27: targets, weights, sums, the mean, the rate, isSound. */
public final class WeightsTest {
    public static void main(String[] args) {
        targets();
        oneStratum();
        mixedStrata();
        replacementsOnly();
        replacementsOfALanguageWithoutTarget();
        twoStrataWithReplacements();
        laterDraws();
        lostAnswers();
        meanAndRate();
        longStudy();
        errors();
        Expect.end();
    }

    private static void answer(Study book, int answer, int... houses) {
        for (int house : houses) {
            book.visit(house, 'a', answer);
        }
    }

    private static void expectWeight(Study book, int house, int due) {
        Expect.same("21 house " + house, book.weight(house), due);
        Expect.same("22 house " + house, book.weightAnew(house), due);
        Expect.same("27 sound", book.isSound(), true);
    }

    private static void targets() {
        Study book = new Study();
        book.addStratum();
        book.addStratum();
        for (int k = 0; k < 12; k++) {
            book.addHouse(0, 0, 0);
            book.addHouse(1, 0, 0);
        }
        Expect.same("20 nothing is drawn", book.target(0), 0);
        book.draw(0, 1);
        Expect.same("20 one", book.target(0), 1000);
        Expect.same("20 of the stratum", book.target(1), 0);
        book.draw(0, 11);
        book.draw(1, 12);
        Expect.same("20 all", book.target(0), 12000);
        Expect.same("20 all of the other", book.target(1), 12000);
    }

    private static void oneStratum() {
        Study book = Studies.dayOneOf(new int[][] {{0, 0}, {0, 0}, {0, 0}, {0, 0}});
        answer(book, 2, 3);
        expectWeight(book, 3, 4000);
        answer(book, 5, 1);
        expectWeight(book, 1, 2000);
        expectWeight(book, 3, 2000);
        answer(book, 9, 0);
        // What is missing behind rounding down goes to the lowest numbers.
        expectWeight(book, 0, 1334);
        expectWeight(book, 1, 1333);
        expectWeight(book, 3, 1333);
        Expect.same("24 sum", book.weightedSum(), 9L * 1334 + 5 * 1333 + 2 * 1333);
        Expect.same("23 language", book.weightOfLanguage(0), 4000);
        Expect.same("23 no house", book.weightOfLanguage(1), 0);
    }

    private static void mixedStrata() {
        int[][] houses = {{0, 0}, {0, 1}, {0, 0}, {1, 1}, {1, 0}, {1, 2}};
        Study book = Studies.dayOneOf(houses);
        answer(book, 1, 0, 1, 3, 4);
        int[] due = {1800, 1200, 0, 1200, 1800};
        for (int house : new int[] {0, 1, 3, 4}) {
            expectWeight(book, house, due[house]);
        }
        answer(book, 1, 5);
        int[] dueThen = {1800, 1200, 0, 800, 1200, 1000};
        for (int house : new int[] {0, 1, 3, 4, 5}) {
            expectWeight(book, house, dueThen[house]);
        }
        Expect.same("23 language 0", book.weightOfLanguage(0), 3000);
        Expect.same("23 language 1", book.weightOfLanguage(1), 2000);
        Expect.same("23 language 2", book.weightOfLanguage(2), 1000);
        Study three = Studies.dayOneOf(houses);
        answer(three, 1, 1, 2, 4);
        expectWeight(three, 1, 2271);
        expectWeight(three, 2, 729);
        expectWeight(three, 4, 3000);
    }

    /** Houses of the language 0 are lost, and those of the language 1 that replace them have no target. */
    private static Study withReplacements(int kept) {
        Study book = Studies.dayOneOf(new int[][] {{0, 0}, {0, 0}, {0, 0}});
        for (int house = kept; house < 3; house++) {
            book.addHouse(0, 50, 1);
            book.visit(house, 'e', 0);
        }
        book.endDay();
        return book;
    }

    private static void replacementsOnly() {
        Study book = withReplacements(0);
        answer(book, 1, 3, 4);
        expectWeight(book, 3, 1500);
        expectWeight(book, 4, 1500);
        answer(book, 1, 5);
        expectWeight(book, 5, 1000);
        Expect.same("20 the target", book.target(0), 3000);
        Expect.same("23 language 1", book.weightOfLanguage(1), 3000);
    }

    private static void replacementsOfALanguageWithoutTarget() {
        Study book = withReplacements(1);
        answer(book, 4, 0);
        answer(book, 5, 3, 4);
        expectWeight(book, 0, 3000);
        expectWeight(book, 3, 0);
        expectWeight(book, 4, 0);
        Expect.same("24 sum", book.weightedSum(), 12000L);
        Expect.same("25 mean", book.weightedMean(), 4.0);
        Expect.same("26 rate", book.rate(), 1.0f);
    }

    private static void twoStrataWithReplacements() {
        Study book = Studies.dayOneOf(new int[][] {{0, 0}, {0, 0}, {1, 0}, {1, 1}});
        book.addHouse(0, 50, 1);
        book.addHouse(0, 50, 1);
        answer(book, 1, 2, 3);
        book.visit(0, 'e', 0);
        book.visit(1, 'e', 0);
        book.endDay();
        answer(book, 1, 4, 5);
        // Rising house numbers here are 2, 3, 4 and 5.
        int[] due = dueOfTwoStrata();
        for (int house = 2; house < 6; house++) {
            expectWeight(book, house, due[house - 2]);
        }
    }

    /**
     * The stratum 0 has the houses 4 and 5 of the language 1, the stratum 1 the houses 2 and 3 of the languages 0
     * and 1; the target of the language 0 is 3000, that of the language 1 is 1000, that of each stratum 2000.
     */
    private static int[] dueOfTwoStrata() {
        long[] w = {1000, 1000, 1000, 1000};
        for (int k = 0; k < 3; k++) {
            fit(w, 2000, 2, 3);
            fit(w, 2000, 0, 1);
            fit(w, 3000, 0);
            fit(w, 1000, 1, 2, 3);
        }
        fit(w, 2000, 2, 3);
        fit(w, 2000, 0, 1);
        return new int[] {(int) w[0], (int) w[1], (int) w[2], (int) w[3]};
    }

    private static void fit(long[] weights, long target, int... members) {
        long sum = 0;
        for (int k : members) {
            sum += weights[k];
        }
        long left = target;
        for (int k : members) {
            weights[k] = weights[k] * target / sum;
            left -= weights[k];
        }
        for (int k = 0; k < left; k++) {
            weights[members[k]]++;
        }
    }

    private static void laterDraws() {
        Study book = Studies.dayOneOf(new int[][] {{0, 0}, {0, 0}});
        answer(book, 3, 0);
        expectWeight(book, 0, 2000);
        book.addHouse(0, 50, 2);
        expectWeight(book, 0, 2000);
        book.draw(0, 1);
        expectWeight(book, 0, 3000);
        book.endDay();
        answer(book, 3, 2);
        expectWeight(book, 0, 2000);
        expectWeight(book, 2, 1000);
    }

    private static void lostAnswers() {
        Study book = new Study();
        book.addStratum();
        for (int house = 0; house < 4; house++) {
            book.addHouse(0, house < 2 ? 0 : 99, 0);
        }
        book.draw(0, 4);
        book.addInterviewer(0, 1, 100);
        book.addInterviewer(99, 1, 100);
        book.endDay();
        answer(book, 4, 0, 1, 2);
        expectWeight(book, 0, 1334);
        expectWeight(book, 2, 1333);
        book.check(0, 5);
        expectWeight(book, 0, 1334);
        book.check(1, 5);
        expectWeight(book, 2, 4000);
        Expect.fails("21 gone", NoSuchElementException.class, () -> book.weight(0));
        Expect.fails("22 gone", NoSuchElementException.class, () -> book.weightAnew(1));
        Expect.same("24 sum", book.weightedSum(), 16000L);
        Expect.same("26 rate", book.rate(), 0.25f);
        answer(book, 9, 3);
        expectWeight(book, 2, 2000);
        expectWeight(book, 3, 2000);
        book.check(2, 0);
        book.check(3, 0);
        Expect.same("24 nothing is left", book.weightedSum(), 0L);
        Expect.same("23 nothing is left", book.weightOfLanguage(0), 0);
        Expect.fails("25 nothing is left", ArithmeticException.class, book::weightedMean);
        Expect.same("26 nothing is left", book.rate(), 0.0f);
        Expect.same("27 sound", book.isSound(), true);
    }

    private static void meanAndRate() {
        Study book = Studies.undrawn(50, 50, 50, 50);
        book.addInterviewer(50, 1, 600);
        Expect.failsAlone(book, "25 no weights", ArithmeticException.class, book::weightedMean);
        Expect.failsAlone(book, "26 no house is drawn", ArithmeticException.class, book::rate);
        book.draw(0, 3);
        Expect.same("26 none has answered", book.rate(), 0.0f);
        book.endDay();
        answer(book, 1, book.roundAt(0, 0));
        Expect.same("26 one of three", book.rate(), 1.0f / 3.0f);
        Expect.same("25 one answer", book.weightedMean(), 1.0);
        answer(book, 8, book.roundAt(0, 1));
        Expect.same("26 two of three", book.rate(), 2.0f / 3.0f);
        Expect.same("25 both", book.weightedMean(), 13500.0 / 3000.0);
        book.visit(book.roundAt(0, 2), 'e', 0);
        Expect.same("26 without the empty one", book.rate(), 1.0f);
        book.endDay();
        Expect.same("26 with the one that replaces it", book.rate(), 2.0f / 3.0f);
        book.visit(book.roundAt(0, 0), 'r', 0);
        Expect.same("26 with the one that refuses", book.rate(), 2.0f / 3.0f);

        Study empty = Studies.drawn(50);
        empty.addInterviewer(50, 1, 600);
        empty.endDay();
        empty.visit(0, 'e', 0);
        Expect.failsAlone(empty, "26 but one empty house", ArithmeticException.class, empty::rate);
        Study zero = Studies.drawn(50);
        zero.addInterviewer(50, 1, 600);
        zero.endDay();
        zero.visit(0, 'a', 0);
        Expect.same("25 a mean of 0", zero.weightedMean(), 0.0);
    }

    /**
     * As many visits and checks as a study can well hold: nobody is at home twice, then one interviewer behind the
     * other asks the houses, and all but the last one are barred.
     */
    private static void longStudy() {
        int[][] houses = new int[24][];
        for (int house = 0; house < 24; house++) {
            houses[house] = new int[] {house % 4, house % 3};
        }
        Study book = Studies.dayOneOf(houses);
        book.addInterviewer(50, 7, 600);
        book.addInterviewer(50, 7, 600);
        int[] takers = new int[24];
        tellAll(book, 'n', takers);
        book.endDay();
        tellAll(book, 'n', takers);
        Studies.endDays(book, 2);
        for (int interviewer = 0; interviewer < 3; interviewer++) {
            tellAll(book, 'a', takers);
            expectAgreement(book);
            int answers = book.answersTo(interviewer);
            checkAllAnswers(book, interviewer, takers);
            Expect.same("19 many answers", answers >= 20, true);
            Expect.same("19 all of them are gone", book.answersTo(interviewer), 0);
            expectAgreement(book);
            book.endDay();
        }
        tellAll(book, 'a', takers);
        Expect.same("19 the last interviewer", book.answersTo(3), 24);
        expectAgreement(book);
    }

    private static void tellAll(Study book, char outcome, int[] takers) {
        for (int house = 0; house < 24; house++) {
            int asked = house;
            Object taker = Expect.outcomeOf(() -> book.visit(asked, outcome, asked % 10));
            if (taker instanceof Integer) {
                takers[house] = (Integer) taker;
            }
        }
    }

    /** All unchecked answers to the interviewer are right but for the last two. */
    private static void checkAllAnswers(Study book, int interviewer, int[] takers) {
        int left = book.answersTo(interviewer);
        for (int house = 0; house < 24; house++) {
            if (book.stateOf(house) == 'a' && takers[house] == interviewer) {
                int asked = house;
                int answer = left > 2 ? house % 10 : (house + 1) % 10;
                Expect.same("12 house " + house, Expect.outcomeOf(() -> book.check(asked, answer)), left > 2);
                left--;
            }
        }
    }

    private static void expectAgreement(Study study) {
        Fieldbook book = study.again();
        for (int house = 0; house < 24; house++) {
            if (book.stateOf(house) == 'a') {
                Expect.same("22 house " + house, book.weightAnew(house), book.weight(house));
            } else {
                int asked = house;
                Expect.fails("22 house " + house, NoSuchElementException.class, () -> book.weightAnew(asked));
            }
        }
        Expect.same("27 sound", book.isSound(), true);
    }

    private static void errors() {
        Study book = Studies.dayOneOf(new int[][] {{0, 0}, {1, 1}});
        book.visit(0, 'n', 0);
        for (int number : new int[] {-1, 4, Integer.MIN_VALUE, Integer.MAX_VALUE}) {
            Expect.fails("20 stratum", IndexOutOfBoundsException.class, () -> book.target(number));
        }
        for (int number : new int[] {-1, 2, 24, Integer.MIN_VALUE, Integer.MAX_VALUE}) {
            Expect.fails("21 house", IndexOutOfBoundsException.class, () -> book.weight(number));
            Expect.fails("22 house", IndexOutOfBoundsException.class, () -> book.weightAnew(number));
        }
        for (int number : new int[] {-1, 3, Integer.MIN_VALUE, Integer.MAX_VALUE}) {
            Expect.fails("23 language", IllegalArgumentException.class, () -> book.weightOfLanguage(number));
        }
        Expect.fails("21 not answered", NoSuchElementException.class, () -> book.weight(0));
        Expect.fails("22 not answered", NoSuchElementException.class, () -> book.weightAnew(0));
    }
}
