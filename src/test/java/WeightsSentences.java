import static java.lang.Integer.MAX_VALUE;
import static java.lang.Integer.MIN_VALUE;

import java.util.NoSuchElementException;

/** Weights; promises 20 to 27. */
final class WeightsSentences {
    private static final int[] NO_HOUSES_OF_FIVE = {-1, 5, 23, 24, MIN_VALUE, MAX_VALUE};

    private WeightsSentences() {
    }

    static void run() {
        terms();
        weights();
        sums();
    }

    private static void terms() {
        String target = "The target of a stratum, or of a language, is 1000 for each of its houses that was drawn, but "
                + "not to replace another one.";
        Sentences.holds(0, target, WeightsSentences::noneToAllAreDrawn);
        Sentences.holds(0, target, WeightsSentences::replacementsHaveNoTarget);
        Sentences.holds(0, target, WeightsSentences::lostHousesKeepTheirTarget);
        Sentences.holds(0, "Each house that has answered has a weight, at first 1000.", WeightsSentences::firstWeight);
        Sentences.holds(0, "The weights are fitted to the strata, then to the languages; this is done three times in "
                + "all; then they are fitted to the strata once more.", WeightsSentences::threeTimesAndOnceMore);
        String fit = "To fit weights to strata, or languages, means: for each of them that has houses that have "
                + "answered, each weight of these houses becomes the weight times the target, divided by the sum of "
                + "the weights of these houses before, rounded down; what is missing of the target then is added, 1 to "
                + "each of these houses by rising numbers, as far as it goes.";
        Sentences.holds(0, fit, WeightsSentences::strataAndLanguagesWithoutAnswers);
        Sentences.holds(0, fit, WeightsSentences::nothingToAllButOneAreMissing);
        Sentences.holds(0, fit, WeightsSentences::missingOneForAWeightOfNothing);
        Sentences.holds(0, "If the sum of the weights is 0, each of these weights counts as 1 here.",
                WeightsSentences::allWeightsAreNothing);
    }

    private static void weights() {
        Sentences.holds(20, "Throws `IndexOutOfBoundsException` if there is no such stratum",
                WeightsSentences::targetOfNoStratum);
        Sentences.holds(21, "Returns the weight of a house, from how the houses are now, as it is kept.",
                WeightsSentences::followsEachCall);
        Sentences.holds(21, "Throws `IndexOutOfBoundsException` if there is no such house",
                WeightsSentences::weightOfNoHouse);
        Sentences.holds(21, "Throws `NoSuchElementException` if it has not answered",
                WeightsSentences::weightWithoutAnswer);
        String anew = "Returns the same weight, from all that came of visits and checks since the beginning.";
        Sentences.holds(22, anew, WeightsSentences::sameWeightBehindAllCalls);
        Sentences.holds(22, anew, WeightsSentences::sameWeightBehindEachPairOfAnswers);
        Sentences.holds(22, anew, WeightsSentences::sameWeightWithAll);
        Sentences.holds(22, "Throws `IndexOutOfBoundsException` if there is no such house",
                WeightsSentences::weightAnewOfNoHouse);
        Sentences.holds(22, "Throws `NoSuchElementException` if it has not answered",
                WeightsSentences::weightAnewWithoutAnswer);
        Sentences.holds(0, "An object is used for at most 512 calls after it has been made; what later calls answer is "
                + "free.", WeightsSentences::lastOf512Calls);
    }

    private static void sums() {
        Sentences.holds(23, "- `language`: the language, 0 to 2", WeightsSentences::allLanguages);
        Sentences.holds(23, "Throws `IllegalArgumentException` if there is no such language",
                WeightsSentences::noSuchLanguage);
        Sentences.holds(24, "Returns the sum of all answers, each one times the weight of its house.",
                WeightsSentences::leastAndGreatestSum);
        Sentences.holds(25, "Returns the weighted sum divided by the sum of the weights, both converted to double.",
                WeightsSentences::leastAndGreatestMean);
        Sentences.holds(25, "Throws `ArithmeticException` if the sum of the weights is 0",
                WeightsSentences::meanOfNothing);
        Sentences.holds(26, "Returns the number of houses that have answered divided by that of all houses that were "
                + "drawn and are not empty, both converted to float.", WeightsSentences::leastAndGreatestRate);
        Sentences.holds(26, "Throws `ArithmeticException` if there are no such houses",
                WeightsSentences::rateOfNothing);
        Sentences.holds(27, "Checks whether, for each stratum that has houses that have answered, the sum of their "
                + "weights is its target, and weight() and weightAnew() agree for each house that has answered.",
                WeightsSentences::soundWithAndWithoutAnswers);
    }

    private static void answer(Study study, int answer, int... houses) {
        for (int house : houses) {
            study.visit(house, 'a', answer);
        }
    }

    /** The houses are asked for by rising numbers of those that have answered; -1 is due of one that has not. */
    private static void expectWeights(Study study, int... due) {
        for (int house = 0; house < due.length; house++) {
            int asked = house;
            Object weight = Expect.outcomeOf(() -> study.weight(asked));
            Object anew = Expect.outcomeOf(() -> study.weightAnew(asked));
            Object expected = due[house] < 0 ? NoSuchElementException.class : (Object) due[house];
            Expect.same("weight of " + house, weight, expected);
            Expect.same("weight anew of " + house, anew, expected);
        }
        Expect.same("sound", study.isSound(), true);
    }

    private static void noneToAllAreDrawn() {
        Study study = Studies.undrawn(new int[24]);
        study.addStratum();
        Expect.same("none", study.target(0), 0);
        for (int house = 1; house <= 24; house++) {
            study.draw(0, 1);
            Expect.same("drawn", study.target(0), 1000 * house);
        }
        Expect.same("a stratum without houses", study.target(1), 0);
    }

    /** The house 1 is lost, and the house 2 of a language that nobody else speaks replaces it. */
    private static void replacementsHaveNoTarget() {
        Study study = Studies.dayOneOf(new int[][] {{0, 0}, {0, 0}});
        study.addHouse(0, 50, 1);
        answer(study, 1, 0);
        study.visit(1, 'e', 0);
        Expect.same("one replaces", study.endDay(), 1);
        Expect.same("of the stratum", study.target(0), 2000);
        expectWeights(study, 2000, -1, -1);
        answer(study, 1, 2);
        // The target of its language is 0.
        expectWeights(study, 2000, -1, 0);
        study.addHouse(0, 50, 1);
        study.draw(0, 1);
        Expect.same("with one drawn that replaces none", study.target(0), 3000);
        expectWeights(study, 2000, -1, 1000, -1);
    }

    private static void lostHousesKeepTheirTarget() {
        Study study = Studies.dayOneOf(new int[][] {{0, 0}, {0, 0}, {0, 0}});
        answer(study, 1, 0);
        study.visit(1, 'e', 0);
        study.visit(2, 'r', 0);
        Expect.same("one is empty", study.target(0), 3000);
        Studies.endDays(study, 3);
        study.visit(2, 'r', 0);
        Expect.same("one has refused", study.target(0), 3000);
        expectWeights(study, 3000);
        study.endDay();
        study.addHouse(0, 50, 0);
        study.draw(0, 1);
        Expect.same("one more", study.target(0), 4000);
        expectWeights(study, 4000);
    }

    private static void firstWeight() {
        Study study = Studies.dayOneOf(new int[][] {{0, 0}, {1, 1}});
        expectWeights(study, -1, -1);
        answer(study, 1, 0);
        expectWeights(study, 1000, -1);
        answer(study, 1, 1);
        expectWeights(study, 1000, 1000);
    }

    /**
     * With two times it were 2182 and 818, with four 2320 and 680; with the languages first 2214 and 786; without the
     * last fit 2000, 643 and 2357.
     */
    private static void threeTimesAndOnceMore() {
        Study study = Studies.dayOneOf(new int[][] {{0, 0}, {0, 1}, {0, 0}, {1, 1}, {1, 0}, {1, 2}});
        answer(study, 1, 1, 2, 4);
        expectWeights(study, -1, 2271, 729, -1, 3000, -1);
    }

    private static void strataAndLanguagesWithoutAnswers() {
        Study study = Studies.dayOneOf(new int[][] {{0, 0}, {1, 0}, {2, 2}, {3, 1}});
        answer(study, 1, 0);
        expectWeights(study, 1000, -1, -1, -1);
        Expect.same("the language of the stratum 1 too", study.weightOfLanguage(0), 1000);
        answer(study, 1, 2);
        expectWeights(study, 1000, -1, 1000, -1);
    }

    private static void nothingToAllButOneAreMissing() {
        int[][] eight = new int[8][2];
        Study study = Studies.dayOneOf(eight);
        answer(study, 1, 7);
        expectWeights(study, -1, -1, -1, -1, -1, -1, -1, 8000);
        answer(study, 1, 5, 6);
        // 2666 for each, and 2 are missing.
        expectWeights(study, -1, -1, -1, -1, -1, 2667, 2667, 2666);
        answer(study, 1, 4);
        expectWeights(study, -1, -1, -1, -1, 2000, 2000, 2000, 2000);
        answer(study, 1, 3, 1, 2);
        // 1142 for each, and 6 are missing.
        expectWeights(study, -1, 1143, 1143, 1143, 1143, 1143, 1143, 1142);
    }

    /**
     * The stratum 1 loses three houses of the language 2, and houses of the languages 0, 1 and 2 replace them. The
     * weight of the house 4 is 0 behind each fit to the languages, as nothing of its language has a target; behind
     * each fit to the strata 1 is missing, which it gets as the lowest one.
     */
    private static void missingOneForAWeightOfNothing() {
        Study study = Studies.dayOneOf(new int[][] {{0, 1}, {1, 2}, {1, 2}, {1, 2}});
        for (int language = 0; language < 3; language++) {
            study.addHouse(1, 50, language);
        }
        answer(study, 1, 0);
        for (int house = 1; house < 4; house++) {
            study.visit(house, 'e', 0);
        }
        Expect.same("all are replaced", study.endDay(), 3);
        answer(study, 1, 4, 5, 6);
        expectWeights(study, 1000, -1, -1, -1, 1, 198, 2801);
        Expect.same("the language without a target", study.weightOfLanguage(0), 1);
    }

    /** All houses are of the language 0 and lost, and so many of the language 1 replace them. */
    private static Study replaced(int houses) {
        Study study = Studies.dayOneOf(new int[houses][2]);
        for (int house = 0; house < houses; house++) {
            study.addHouse(0, 50, 1);
            study.visit(house, 'e', 0);
        }
        Expect.same("all are replaced", study.endDay(), houses);
        return study;
    }

    private static void allWeightsAreNothing() {
        Study study = replaced(4);
        answer(study, 2, 7);
        expectWeights(study, -1, -1, -1, -1, -1, -1, -1, 4000);
        answer(study, 2, 6);
        expectWeights(study, -1, -1, -1, -1, -1, -1, 2000, 2000);
        answer(study, 2, 5);
        expectWeights(study, -1, -1, -1, -1, -1, 1334, 1333, 1333);
        answer(study, 2, 4);
        expectWeights(study, -1, -1, -1, -1, 1000, 1000, 1000, 1000);
        Expect.same("sum", study.weightedSum(), 8000L);
        // A language whose weights are all 0 before the fit, and whose target is 0, stays so.
        Study mixed = Studies.dayOneOf(new int[][] {{0, 0}, {0, 0}, {0, 0}});
        mixed.addHouse(0, 50, 1);
        mixed.addHouse(0, 50, 1);
        answer(mixed, 2, 0);
        mixed.visit(1, 'e', 0);
        mixed.visit(2, 'e', 0);
        mixed.endDay();
        answer(mixed, 9, 3, 4);
        expectWeights(mixed, 3000, -1, -1, 0, 0);
    }

    private static void targetOfNoStratum() {
        Study none = new Study();
        Refused.index(none, "without strata", () -> none.target(0));
        Study study = new Study();
        study.addStratum();
        study.addStratum();
        for (int stratum : new int[] {-1, 2, 4, MIN_VALUE, MAX_VALUE}) {
            Refused.index(study, "stratum " + stratum, () -> study.target(stratum));
        }
        Expect.same("the last one", study.target(1), 0);
    }

    private static void followsEachCall() {
        Study study = Studies.dayOneOf(new int[][] {{0, 0}, {0, 0}, {0, 0}, {0, 0}});
        answer(study, 1, 0);
        expectWeights(study, 4000);
        answer(study, 1, 1);
        expectWeights(study, 2000, 2000);
        study.addHouse(0, 50, 0);
        expectWeights(study, 2000, 2000);
        study.draw(0, 1);
        expectWeights(study, 2500, 2500);
        study.visit(2, 'e', 0);
        study.visit(3, 'r', 0);
        study.check(0, 2);
        expectWeights(study, 2500, 2500);
        study.endDay();
        expectWeights(study, 2500, 2500);
        answer(study, 1, 4);
        expectWeights(study, 1667, 1667, -1, -1, 1666);
        study.check(4, 2);
        expectWeights(study, -1, -1, -1, -1, -1);
        study.endDay();
        answer(study, 1, 1);
        expectWeights(study, -1, 5000, -1, -1, -1);
    }

    /** The houses 0 to 4 have answered, were found empty, refused once, are wanted and are undrawn. */
    private static Study withSomeStates() {
        Study study = Studies.dayOneOf(new int[][] {{0, 0}, {0, 1}, {0, 2}, {0, 0}});
        answer(study, 1, 0);
        study.visit(1, 'e', 0);
        study.visit(2, 'r', 0);
        study.addHouse(0, 50, 0);
        return study;
    }

    private static void weightOfNoHouse() {
        Study study = withSomeStates();
        for (int house : NO_HOUSES_OF_FIVE) {
            Refused.index(study, "house " + house, () -> study.weight(house));
        }
    }

    private static void weightAnewOfNoHouse() {
        Study study = withSomeStates();
        for (int house : NO_HOUSES_OF_FIVE) {
            Refused.index(study, "house " + house, () -> study.weightAnew(house));
        }
    }

    private static void weightWithoutAnswer() {
        Study study = withSomeStates();
        for (int house = 1; house < 5; house++) {
            int asked = house;
            Refused.element(study, "house " + house, () -> study.weight(asked));
        }
        Study gone = withAnswersGone();
        Refused.element(gone, "the answer is gone", () -> gone.weight(0));
    }

    private static void weightAnewWithoutAnswer() {
        Study study = withSomeStates();
        for (int house = 1; house < 5; house++) {
            int asked = house;
            Refused.element(study, "house " + house, () -> study.weightAnew(asked));
        }
        Study gone = withAnswersGone();
        Refused.element(gone, "the answer is gone", () -> gone.weightAnew(0));
    }

    private static Study withAnswersGone() {
        Study study = Studies.dayOneOf(new int[][] {{0, 0}, {0, 1}});
        answer(study, 1, 0, 1);
        study.check(0, 2);
        study.check(1, 2);
        return study;
    }

    /** Each house answers to three interviewers who are barred one behind the other, and then to the last one. */
    private static void sameWeightBehindAllCalls() {
        Study study = Studies.dayOneOf(new int[][] {{0, 0}, {0, 1}, {0, 2}, {1, 0}, {1, 0}});
        study.addInterviewer(50, 7, 600);
        study.addInterviewer(50, 7, 600);
        for (int interviewer = 0; interviewer < 3; interviewer++) {
            answer(study, 1, 4, 2, 0);
            study.check(0, 1);
            expectAgreement(study, 3);
            study.check(2, 2);
            expectAgreement(study, 3);
            study.check(4, 0);
            expectAgreement(study, 0);
            study.endDay();
        }
        answer(study, 1, 0, 1, 2, 3, 4);
        study.check(3, 0);
        expectAgreement(study, 5);
    }

    /** The houses 0 to 19 are those of the interviewer 0, who is barred if both answers are other ones. */
    private static void sameWeightBehindEachPairOfAnswers() {
        for (int first = 0; first <= 9; first++) {
            for (int second = 0; second <= 9; second++) {
                Study study = Studies.dayOneOf(new int[21][2]);
                answer(study, first, 0, 1, 20);
                study.check(0, second);
                study.check(1, second);
                int due = first == second ? 7000 : 21000;
                Expect.same(first + " then " + second, study.weight(20), due);
                Expect.same(first + " then " + second + " anew", study.weightAnew(20), due);
            }
        }
    }

    private static void sameWeightWithAll() {
        int[][] houses = new int[24][];
        for (int house = 0; house < 24; house++) {
            houses[house] = new int[] {house % 4, house % 3};
        }
        Study study = Studies.dayOneOf(houses);
        for (int house = 23; house >= 0; house--) {
            answer(study, house % 10, house);
            Expect.same("house " + house, study.weightAnew(house), study.weight(house));
        }
        for (int house = 0; house < 24; house++) {
            Expect.same("all of 24, house " + house, study.weight(house), 1000);
            Expect.same("all of 24, house " + house, study.weightAnew(house), 1000);
        }
        Expect.same("of the interviewer 0", study.answersTo(0), 20);
        Expect.same("of the interviewer 1", study.answersTo(1), 4);
    }

    private static void expectAgreement(Study study, int answers) {
        int found = 0;
        for (int house = 0; house < 5; house++) {
            int asked = house;
            Object weight = Expect.outcomeOf(() -> study.weight(asked));
            Expect.same("house " + house, Expect.outcomeOf(() -> study.weightAnew(asked)), weight);
            found += weight instanceof Integer ? 1 : 0;
        }
        Expect.same("answers", found, answers);
        Expect.same("sound", study.isSound(), true);
    }

    /** Refused visits and checks are no part of what came of them, and take no room from it. */
    private static void lastOf512Calls() {
        Study study = Studies.dayOneOf(new int[][] {{0, 0}, {0, 0}});
        study.visit(0, 'n', 0);
        while (study.calls() < 509) {
            Expect.fails("told already", IllegalStateException.class, () -> study.visit(0, 'a', 5));
            Expect.fails("not answered", IllegalStateException.class, () -> study.check(0, 5));
        }
        while (study.calls() < 510) {
            study.day();
        }
        Expect.same("call 511", study.visit(1, 'a', 7), 0);
        Expect.same("call 512", study.weightAnew(1), 2000);
        Expect.same("all of them", study.calls(), Study.MOST_CALLS);
    }

    private static void allLanguages() {
        Study study = Studies.dayOneOf(new int[][] {{0, 0}, {1, 1}, {1, 1}, {2, 2}, {2, 2}, {2, 2}});
        for (int language = 0; language < 3; language++) {
            Expect.same("without answers", study.weightOfLanguage(language), 0);
        }
        answer(study, 0, 0, 1, 3, 4);
        for (int language = 0; language < 3; language++) {
            Expect.same("language " + language, study.weightOfLanguage(language), 1000 * (language + 1));
        }
    }

    private static void noSuchLanguage() {
        Study study = withSomeStates();
        for (int language : new int[] {-1, 3, MIN_VALUE, MAX_VALUE}) {
            Refused.argument(study, "language " + language, () -> study.weightOfLanguage(language));
        }
    }

    private static Study allAnswer(int answer) {
        Study study = Studies.dayOneOf(new int[24][2]);
        for (int house = 0; house < 24; house++) {
            answer(study, answer, house);
        }
        return study;
    }

    private static void leastAndGreatestSum() {
        Expect.same("a new object", new Study().weightedSum(), 0L);
        Expect.same("no answer", Studies.dayOneOf(new int[24][2]).weightedSum(), 0L);
        Expect.same("answers of 0", allAnswer(0).weightedSum(), 0L);
        Expect.same("answers of 9", allAnswer(9).weightedSum(), 216000L);
        Expect.same("answers that are gone", withAnswersGone().weightedSum(), 0L);
    }

    private static void leastAndGreatestMean() {
        Expect.same("answers of 0", allAnswer(0).weightedMean(), 0.0);
        Expect.same("answers of 9", allAnswer(9).weightedMean(), 9.0);
        Study study = Studies.dayOneOf(new int[][] {{0, 0}, {0, 0}, {1, 0}});
        answer(study, 9, 0);
        answer(study, 8, 2);
        // 2000 and 1000, and not rounded.
        Expect.same("of two", study.weightedMean(), 26000.0 / 3000.0);
    }

    private static void meanOfNothing() {
        Study none = new Study();
        Refused.arithmetic(none, "a new object", none::weightedMean);
        Study study = Studies.dayOneOf(new int[][] {{0, 0}, {0, 0}});
        Refused.arithmetic(study, "no answer", study::weightedMean);
        study.visit(0, 'e', 0);
        Refused.arithmetic(study, "an empty house", study::weightedMean);
        Study gone = withAnswersGone();
        Refused.arithmetic(gone, "answers that are gone", gone::weightedMean);
    }

    private static void leastAndGreatestRate() {
        Study study = Studies.dayOneOf(new int[][] {{0, 0}, {0, 0}, {0, 0}});
        study.addHouse(0, 50, 0);
        Expect.same("none of three", study.rate(), 0.0f);
        answer(study, 1, 0);
        Expect.same("one of three", study.rate(), 1.0f / 3.0f);
        study.visit(1, 'n', 0);
        study.visit(2, 'e', 0);
        Expect.same("one of two", study.rate(), 0.5f);
        study.endDay();
        Expect.same("with one that replaces", study.rate(), 1.0f / 3.0f);
        study.visit(1, 'n', 0);
        study.visit(3, 'r', 0);
        Studies.endDays(study, 2);
        study.visit(1, 'n', 0);
        Expect.same("with one that was given up", study.rate(), 1.0f / 3.0f);
        study.endDay();
        study.visit(3, 'r', 0);
        Expect.same("with one that has refused", study.rate(), 1.0f / 3.0f);
        Expect.same("all", allAnswer(1).rate(), 1.0f);
        Expect.same("answers that are gone", withAnswersGone().rate(), 0.0f);
    }

    private static void rateOfNothing() {
        Study none = new Study();
        Refused.arithmetic(none, "a new object", none::rate);
        Study undrawn = Studies.undrawn(50, 50);
        Refused.arithmetic(undrawn, "nothing is drawn", undrawn::rate);
        Study empty = Studies.dayOneOf(new int[][] {{0, 0}, {1, 0}});
        empty.visit(0, 'e', 0);
        Expect.same("one is not empty", empty.rate(), 0.0f);
        empty.visit(1, 'e', 0);
        Refused.arithmetic(empty, "all are empty", empty::rate);
    }

    private static void soundWithAndWithoutAnswers() {
        Expect.same("a new object", new Study().isSound(), true);
        Study study = Studies.dayOneOf(new int[][] {{0, 0}, {0, 1}, {1, 2}});
        Expect.same("without answers", study.isSound(), true);
        answer(study, 1, 1);
        Expect.same("one stratum without answers", study.isSound(), true);
        study.addHouse(0, 50, 0);
        study.draw(0, 1);
        Expect.same("behind a draw", study.isSound(), true);
        answer(study, 1, 0, 2);
        Expect.same("all", study.isSound(), true);
        study.check(0, 2);
        study.check(2, 2);
        Expect.same("all are gone", study.isSound(), true);
        Expect.same("24 houses", allAnswer(9).isSound(), true);
    }
}
