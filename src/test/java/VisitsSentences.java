import static java.lang.Integer.MAX_VALUE;
import static java.lang.Integer.MIN_VALUE;

/** Visits; promises 11 and 14 to 17. */
final class VisitsSentences {
    private static final char[] OUTCOMES = {'a', 'n', 'r', 'e'};
    private static final int[] NO_HOUSES_OF_FIVE = {-1, 5, 23, 24, MIN_VALUE, MAX_VALUE};

    private VisitsSentences() {
    }

    static void run() {
        terms();
        promises();
    }

    private static void terms() {
        Sentences.holds(0, "A visit to a house in a round of this day is told once, with what came of it.",
                VisitsSentences::toldOnceADay);
        Sentences.holds(0, "An answer, 'a', is a number from 0 to 9; the house has answered then.",
                VisitsSentences::lowestAndHighestAnswer);
        String nobody = "If nobody is there, 'n', the house is wanted again from the next day on behind the first "
                + "such visit to it, from the second next day on behind the second one, and it is given up behind the "
                + "third one.";
        Sentences.holds(0, nobody, VisitsSentences::nobodyThreeTimes);
        Sentences.holds(0, nobody, VisitsSentences::nobodyCountsApartFromRefusals);
        String refusal = "If it refuses, 'r', the first time, it is wanted again from the third next day on; if it "
                + "refuses a second time, it has refused.";
        Sentences.holds(0, refusal, VisitsSentences::refusesTwice);
        Sentences.holds(0, refusal, VisitsSentences::refusalsCountApartFromNobody);
        Sentences.holds(0, "If it is found empty, 'e', it is empty.", VisitsSentences::emptyAtOnce);
        String counted = "Visits where nobody is there and refusals are counted over all days of a house, also across "
                + "an answer that is gone.";
        Sentences.holds(0, counted, VisitsSentences::nobodyIsCountedAcrossAnAnswer);
        Sentences.holds(0, counted, VisitsSentences::refusalsAreCountedAcrossAnAnswer);
        Sentences.holds(0, counted, VisitsSentences::countsOfTwoHousesStandApart);
        Sentences.holds(0, "A visit that is not told changes nothing.", VisitsSentences::notTold);
    }

    private static void promises() {
        Sentences.holds(11, "- `outcome`: 'a', 'n', 'r' or 'e'", VisitsSentences::fourOutcomes);
        Sentences.holds(11, "- `answer`: the answer, 0 to 9; it does not matter if the outcome is another one, but for "
                + "its range", VisitsSentences::answerBesideOtherOutcomes);
        Sentences.holds(11, "Throws `IndexOutOfBoundsException` if there is no such house",
                VisitsSentences::visitToNoHouse);
        Sentences.holds(11, "Throws `IllegalArgumentException` if there is no such outcome, or the answer is out of "
                + "range", VisitsSentences::noSuchOutcomeOrAnswer);
        String closed = "Throws `IllegalStateException` if the house is in no round of this day, or what came of the "
                + "visit was told already, or the interviewer is barred";
        Sentences.holds(11, closed, VisitsSentences::inNoRoundOfThisDay);
        Sentences.holds(11, closed, VisitsSentences::toldAlready);
        Sentences.holds(11, closed, VisitsSentences::interviewerIsBarred);
        Sentences.holds(14, "Throws `IndexOutOfBoundsException` if there is no such house",
                VisitsSentences::stateOfNoHouse);
        Sentences.holds(15, "Throws `IndexOutOfBoundsException` if there is no such house",
                VisitsSentences::wantedFromOfNoHouse);
        Sentences.holds(15, "Throws `IllegalStateException` if it is not wanted", VisitsSentences::notWanted);
        Sentences.holds(16, "Returns the code of a house: 0 if it is undrawn; 300 plus the number of visits to it that "
                + "were told if it is wanted; 110 if it has answered in the first visit that was told, and 120 if it "
                + "has answered in a later one; 210 if it has refused; 220 if it was given up; 400 if it is empty.",
                VisitsSentences::allCodes);
        Sentences.holds(16, "Throws `IndexOutOfBoundsException` if there is no such house",
                VisitsSentences::codeOfNoHouse);
        Sentences.holds(17, "Throws `IndexOutOfBoundsException` if there is no such house",
                VisitsSentences::answerOfNoHouse);
        Sentences.holds(17, "Throws `NoSuchElementException` if it has not answered", VisitsSentences::notAnswered);
    }

    /** Houses at 50, and four interviewers at 50 who have time for all of them, on the day 1. */
    private static Study dayOne(int houses) {
        int[] places = new int[houses];
        for (int house = 0; house < houses; house++) {
            places[house] = 50;
        }
        Study study = Studies.drawn(places);
        for (int interviewer = 0; interviewer < 4; interviewer++) {
            study.addInterviewer(50, 1, 600);
        }
        study.endDay();
        return study;
    }

    private static void toldOnceADay() {
        Study study = dayOne(2);
        Expect.same("on the day 1", study.visit(0, 'n', 0), 0);
        for (char outcome : OUTCOMES) {
            Refused.state(study, "told again, " + outcome, () -> study.visit(0, outcome, 0));
        }
        Expect.same("another house", study.visit(1, 'n', 0), 0);
        study.endDay();
        Expect.same("on the day 2", study.visit(0, 'n', 0), 0);
        Expect.same("two visits", study.codeOf(0), 302);
    }

    private static void lowestAndHighestAnswer() {
        Study study = dayOne(3);
        study.visit(0, 'a', 0);
        study.visit(1, 'a', 9);
        Refused.argument(study, "answer -1", () -> study.visit(2, 'a', -1));
        Refused.argument(study, "answer 10", () -> study.visit(2, 'a', 10));
        Expect.same("answer 0", study.answerOf(0), 0);
        Expect.same("answer 9", study.answerOf(1), 9);
        Expect.same("has answered", study.stateOf(0), 'a');
        Expect.same("has answered", study.stateOf(1), 'a');
        Expect.same("has not", study.stateOf(2), 'w');
    }

    private static void nobodyThreeTimes() {
        Study study = dayOne(1);
        study.visit(0, 'n', 0);
        Expect.same("behind the first", study.wantedFrom(0), 2);
        study.endDay();
        study.visit(0, 'n', 0);
        Expect.same("behind the second", study.wantedFrom(0), 4);
        study.endDay();
        Expect.same("not on the day 3", study.roundSize(0), 0);
        study.endDay();
        Expect.same("on the day 4", study.roundSize(0), 1);
        Expect.same("still wanted", study.stateOf(0), 'w');
        study.visit(0, 'n', 0);
        Expect.same("behind the third", study.stateOf(0), 'g');
    }

    private static void nobodyCountsApartFromRefusals() {
        Study study = dayOne(1);
        study.visit(0, 'r', 0);
        Studies.endDays(study, 3);
        study.visit(0, 'n', 0);
        Expect.same("behind the first, on the day 4", study.wantedFrom(0), 5);
        study.endDay();
        study.visit(0, 'n', 0);
        Expect.same("behind the second, on the day 5", study.wantedFrom(0), 7);
        Studies.endDays(study, 2);
        Expect.same("the fourth visit", study.codeOf(0), 303);
        study.visit(0, 'n', 0);
        Expect.same("behind the third", study.stateOf(0), 'g');
    }

    private static void refusesTwice() {
        Study study = dayOne(1);
        study.visit(0, 'r', 0);
        Expect.same("behind the first", study.wantedFrom(0), 4);
        Studies.endDays(study, 2);
        Expect.same("not on the day 3", study.roundSize(1), 0);
        study.endDay();
        Expect.same("on the day 4", study.roundSize(1), 1);
        Expect.same("still wanted", study.stateOf(0), 'w');
        study.visit(0, 'r', 0);
        Expect.same("behind the second", study.stateOf(0), 'r');
    }

    private static void refusalsCountApartFromNobody() {
        Study study = dayOne(1);
        study.visit(0, 'n', 0);
        study.endDay();
        study.visit(0, 'n', 0);
        Studies.endDays(study, 2);
        study.visit(0, 'r', 0);
        Expect.same("the first refusal, on the day 4", study.wantedFrom(0), 7);
        Studies.endDays(study, 3);
        study.visit(0, 'r', 0);
        Expect.same("the second refusal", study.stateOf(0), 'r');
    }

    private static void emptyAtOnce() {
        Study study = dayOne(2);
        study.visit(0, 'e', 0);
        Expect.same("in the first visit", study.stateOf(0), 'e');
        study.visit(1, 'n', 0);
        study.endDay();
        study.visit(1, 'e', 0);
        Expect.same("in a later visit", study.stateOf(1), 'e');
        Studies.endDays(study, 3);
        Expect.same("in no round any more", study.roundSize(0), 0);
    }

    /** Both houses give wrong answers to the interviewer in whose round they are. */
    private static void barWhoAsked(Study study, int first, int second) {
        study.visit(first, 'a', 1);
        study.visit(second, 'a', 1);
        study.check(first, 2);
        study.check(second, 2);
    }

    private static void nobodyIsCountedAcrossAnAnswer() {
        Study study = dayOne(2);
        study.visit(0, 'n', 0);
        study.endDay();
        barWhoAsked(study, 0, 1);
        Expect.same("the answer is gone", study.stateOf(0), 'w');
        study.endDay();
        Expect.same("another one asks", study.visit(0, 'n', 0), 1);
        Expect.same("behind the second, on the day 3", study.wantedFrom(0), 5);
        Studies.endDays(study, 2);
        barWhoAsked(study, 0, 1);
        study.endDay();
        Expect.same("a third one asks", study.visit(0, 'n', 0), 2);
        Expect.same("behind the third, on the day 6", study.stateOf(0), 'g');
    }

    private static void refusalsAreCountedAcrossAnAnswer() {
        Study study = dayOne(2);
        study.visit(0, 'r', 0);
        study.visit(1, 'r', 0);
        Studies.endDays(study, 3);
        barWhoAsked(study, 0, 1);
        study.endDay();
        Expect.same("the first one is refused still", study.roundSize(0), 0);
        Expect.same("a third one asks", study.visit(0, 'r', 0), 2);
        Expect.same("behind the second, on the day 5", study.stateOf(0), 'r');
        Expect.same("the visits of all days", study.codeOf(1), 302);
    }

    private static void countsOfTwoHousesStandApart() {
        Study study = dayOne(2);
        study.visit(0, 'n', 0);
        study.endDay();
        study.visit(0, 'n', 0);
        study.visit(1, 'n', 0);
        Expect.same("the second one of the house 0", study.wantedFrom(0), 4);
        Expect.same("the first one of the house 1", study.wantedFrom(1), 3);
        Expect.same("visits to the house 1", study.codeOf(1), 301);
        study.endDay();
        study.visit(1, 'r', 0);
        study.endDay();
        study.visit(0, 'r', 0);
        Expect.same("the first refusal of the house 0", study.wantedFrom(0), 7);
    }

    private static void notTold() {
        Study study = dayOne(1);
        for (int day = 1; day < 6; day++) {
            Expect.same("wanted from the same day", study.wantedFrom(0), 1);
            Expect.same("no visit", study.codeOf(0), 300);
            Expect.same("in the round", study.roundAt(0, 0), 0);
            Expect.same("nothing is replaced", study.endDay(), 0);
        }
        study.visit(0, 'n', 0);
        Expect.same("the first visit, on the day 6", study.wantedFrom(0), 7);
        Expect.same("one visit", study.codeOf(0), 301);
    }

    private static void fourOutcomes() {
        Study study = dayOne(4);
        char[] due = {'a', 'w', 'w', 'e'};
        for (int house = 0; house < 4; house++) {
            study.visit(house, OUTCOMES[house], 3);
            Expect.same("outcome " + OUTCOMES[house], study.stateOf(house), due[house]);
        }
    }

    private static void answerBesideOtherOutcomes() {
        for (char outcome : new char[] {'n', 'r', 'e'}) {
            Study low = dayOne(1);
            low.visit(0, outcome, 0);
            Study high = dayOne(1);
            high.visit(0, outcome, 9);
            Expect.same("outcome " + outcome, Picture.of(high), Picture.of(low));
            Study study = dayOne(1);
            for (int answer : new int[] {-1, 10, MIN_VALUE, MAX_VALUE}) {
                Refused.argument(study, outcome + " " + answer, () -> study.visit(0, outcome, answer));
            }
        }
    }

    private static void visitToNoHouse() {
        Study none = new Study();
        Refused.index(none, "without houses", () -> none.visit(0, 'a', 0));
        Study study = dayOne(5);
        for (int house : NO_HOUSES_OF_FIVE) {
            Refused.index(study, "house " + house, () -> study.visit(house, 'a', 0));
        }
    }

    private static void noSuchOutcomeOrAnswer() {
        Study study = dayOne(1);
        for (char outcome : new char[] {0, ' ', 'A', 'N', 'R', 'E', 'b', 'd', 'f', 'm', 'o', 'q', 's', 'u', 'w', 'g',
                'c', (char) ('a' + 256), 65535}) {
            Refused.argument(study, "outcome " + (int) outcome, () -> study.visit(0, outcome, 0));
        }
        for (int answer : new int[] {-1, 10, MIN_VALUE, MAX_VALUE}) {
            Refused.argument(study, "answer " + answer, () -> study.visit(0, 'a', answer));
        }
        Expect.same("the visit can still be told", study.visit(0, 'a', 0), 0);
    }

    private static void inNoRoundOfThisDay() {
        Study study = Studies.drawn(50, 99);
        study.addInterviewer(50, 1, 30);
        study.addHouse(0, 50, 0);
        Refused.state(study, "on the day 0", () -> study.visit(0, 'a', 0));
        study.endDay();
        study.draw(0, 1);
        for (char outcome : OUTCOMES) {
            Refused.state(study, "too far, " + outcome, () -> study.visit(1, outcome, 0));
            Refused.state(study, "drawn on this day, " + outcome, () -> study.visit(2, outcome, 0));
        }
        study.visit(0, 'n', 0);
        study.endDay();
        study.visit(0, 'n', 0);
        study.endDay();
        Refused.state(study, "in yesterday's round only", () -> study.visit(0, 'a', 0));
        study.addHouse(0, 50, 0);
        Refused.state(study, "undrawn", () -> study.visit(3, 'a', 0));
    }

    private static void toldAlready() {
        for (char outcome : OUTCOMES) {
            Study study = dayOne(1);
            study.visit(0, outcome, 0);
            Refused.state(study, "told as " + outcome, () -> study.visit(0, 'a', 5));
        }
        Study lost = dayOne(2);
        barWhoAsked(lost, 0, 1);
        Refused.state(lost, "told, and the answer is gone", () -> lost.visit(0, 'a', 5));
    }

    private static void interviewerIsBarred() {
        Study study = dayOne(3);
        study.visit(0, 'a', 1);
        study.visit(1, 'a', 1);
        study.check(0, 2);
        study.check(1, 2);
        for (char outcome : OUTCOMES) {
            Refused.state(study, "barred, " + outcome, () -> study.visit(2, outcome, 0));
        }
        study.endDay();
        Expect.same("another one on the next day", study.visit(2, 'a', 1), 1);
    }

    private static void stateOfNoHouse() {
        Study study = dayOne(5);
        for (int house : NO_HOUSES_OF_FIVE) {
            Refused.index(study, "house " + house, () -> study.stateOf(house));
        }
    }

    private static void wantedFromOfNoHouse() {
        Study study = dayOne(5);
        for (int house : NO_HOUSES_OF_FIVE) {
            Refused.index(study, "house " + house, () -> study.wantedFrom(house));
        }
    }

    private static void codeOfNoHouse() {
        Study study = dayOne(5);
        for (int house : NO_HOUSES_OF_FIVE) {
            Refused.index(study, "house " + house, () -> study.codeOf(house));
        }
    }

    private static void answerOfNoHouse() {
        Study study = dayOne(5);
        for (int house : NO_HOUSES_OF_FIVE) {
            Refused.index(study, "house " + house, () -> study.answerOf(house));
        }
    }

    /** The houses 0 to 5 have answered, have refused, were given up, are empty, are wanted and are undrawn. */
    private static Study withAllStates() {
        Study study = dayOne(5);
        study.visit(0, 'a', 4);
        study.visit(1, 'r', 0);
        study.visit(2, 'n', 0);
        study.endDay();
        study.visit(2, 'n', 0);
        Studies.endDays(study, 2);
        study.visit(1, 'r', 0);
        study.visit(2, 'n', 0);
        study.visit(3, 'e', 0);
        study.addHouse(0, 50, 0);
        return study;
    }

    private static void notWanted() {
        Study study = withAllStates();
        for (int house : new int[] {0, 1, 2, 3, 5}) {
            Refused.state(study, "house " + house, () -> study.wantedFrom(house));
        }
        Expect.same("the wanted one", study.wantedFrom(4), 1);
    }

    private static void notAnswered() {
        Study study = withAllStates();
        for (int house = 1; house <= 5; house++) {
            int asked = house;
            Refused.element(study, "house " + asked, () -> study.answerOf(asked));
        }
        Expect.same("the one that has answered", study.answerOf(0), 4);
        Study gone = dayOne(2);
        barWhoAsked(gone, 0, 1);
        Refused.element(gone, "the answer is gone", () -> gone.answerOf(0));
    }

    private static void allCodes() {
        Study study = withAllStates();
        int[] due = {110, 210, 220, 400, 300, 0};
        for (int house = 0; house < 6; house++) {
            Expect.same("house " + house, study.codeOf(house), due[house]);
        }
        Study later = dayOne(2);
        Expect.same("no visit was told", later.codeOf(0), 300);
        later.visit(0, 'n', 0);
        Expect.same("one visit was told", later.codeOf(0), 301);
        later.endDay();
        later.visit(0, 'a', 1);
        later.visit(1, 'a', 1);
        Expect.same("answered in the second visit told", later.codeOf(0), 120);
        Expect.same("answered in the first visit told, on the day 2", later.codeOf(1), 110);
        later.check(0, 2);
        later.check(1, 2);
        Expect.same("two visits, wanted again", later.codeOf(0), 302);
        Expect.same("one visit, wanted again", later.codeOf(1), 301);
        later.endDay();
        later.visit(1, 'a', 1);
        Expect.same("answered again, in the second visit told", later.codeOf(1), 120);
    }
}
