import static java.lang.Integer.MAX_VALUE;
import static java.lang.Integer.MIN_VALUE;

/** Checks and ends of days; promises 12, 13, 18 and 19. */
final class ChecksSentences {
    private ChecksSentences() {
    }

    static void run() {
        checks();
        ends();
        promises();
    }

    private static void checks() {
        Sentences.holds(0, "An interviewer with 2 faults is barred.", ChecksSentences::oneFaultAndTwo);
        Sentences.holds(0, "A house that has answered can be asked again, once for each answer.",
                ChecksSentences::onceForEachAnswer);
        String another = "If this answer is another one, the interviewer who took the first answer has one more "
                + "fault; the house keeps its first answer.";
        Sentences.holds(0, another, ChecksSentences::sameAndOtherAnswers);
        Sentences.holds(0, another, ChecksSentences::faultOfTheOneWhoTookIt);
        String barred = "When an interviewer is barred, each house that has answered to this interviewer is wanted "
                + "again from the next day on, its answer is gone, and the visits of this interviewer on this day "
                + "can't be told any more.";
        Sentences.holds(0, barred, ChecksSentences::eachAnswerOfAllDaysIsGone);
        Sentences.holds(0, barred, ChecksSentences::answersToOthersStay);
        Sentences.holds(0, barred, ChecksSentences::visitsOfTheBarred);
        Sentences.holds(0, barred, ChecksSentences::barredOnTheLastDay);
    }

    private static void ends() {
        String replaced = "When a day ends, for each house that has refused, was given up or was found empty on this "
                + "day, by rising numbers, a house is drawn from the same stratum to replace it, if there is an "
                + "undrawn one.";
        Sentences.holds(0, replaced, ChecksSentences::eachWayToBeLost);
        Sentences.holds(0, replaced, ChecksSentences::notLostIsNotReplaced);
        Sentences.holds(0, replaced, ChecksSentences::onThisDayOnly);
        Sentences.holds(0, replaced, ChecksSentences::byRisingNumbers);
        Sentences.holds(0, replaced, ChecksSentences::lastUndrawnHouse);
        Sentences.holds(0, replaced, ChecksSentences::undrawnInAnotherStratumOnly);
        Sentences.holds(0, "Then the next day begins.", ChecksSentences::nextDayBegins);
    }

    private static void promises() {
        Sentences.holds(12, "- `answer`: the answer that it gives now, 0 to 9",
                ChecksSentences::lowestAndHighestAnswer);
        Sentences.holds(12, "Throws `IndexOutOfBoundsException` if there is no such house",
                ChecksSentences::checkOfNoHouse);
        Sentences.holds(12, "Throws `IllegalArgumentException` if the answer is out of range",
                ChecksSentences::answerOutOfRange);
        String closed = "Throws `IllegalStateException` if the house has not answered, or this answer of it was "
                + "checked already";
        Sentences.holds(12, closed, ChecksSentences::notAnswered);
        Sentences.holds(12, closed, ChecksSentences::checkedAlready);
        Sentences.holds(13, "Returns the number of houses that are drawn to replace others.",
                ChecksSentences::noneToAllAreReplaced);
        Sentences.holds(13, "Throws `IllegalStateException` if the day is 99", ChecksSentences::lastDay);
        Sentences.holds(18, "Returns the number of faults, 0 to 2.", ChecksSentences::noneToTwoFaults);
        Sentences.holds(18, "Throws `IndexOutOfBoundsException` if there is no such interviewer",
                ChecksSentences::faultsOfNobody);
        Sentences.holds(19, "Returns the number of houses.", ChecksSentences::noneToAllAnswers);
        Sentences.holds(19, "Throws `IndexOutOfBoundsException` if there is no such interviewer",
                ChecksSentences::answersToNobody);
    }

    /** Houses at 50 on the day 1, and two interviewers at 50; the first one has time for so many of them. */
    private static Study dayOne(int houses, int ofTheFirst) {
        int[] places = new int[houses];
        for (int house = 0; house < houses; house++) {
            places[house] = 50;
        }
        Study study = Studies.drawn(places);
        study.addInterviewer(50, 1, 30 * ofTheFirst);
        study.addInterviewer(50, 1, 600);
        study.endDay();
        return study;
    }

    private static void answerAll(Study study, int... houses) {
        for (int house : houses) {
            study.visit(house, 'a', 1);
        }
    }

    private static void oneFaultAndTwo() {
        Study study = dayOne(4, 4);
        answerAll(study, 0, 1);
        study.check(0, 2);
        Expect.same("one fault", study.faults(0), 1);
        Expect.same("its answers stay", study.answersTo(0), 2);
        Expect.same("its visits can be told", study.visit(2, 'a', 1), 0);
        study.endDay();
        Expect.same("it has a round", study.roundSize(0), 1);
        study.check(1, 2);
        Expect.same("two faults", study.faults(0), 2);
        Expect.same("no answers", study.answersTo(0), 0);
        Refused.state(study, "no visits", () -> study.visit(3, 'a', 1));
        study.endDay();
        Expect.same("no round", study.roundSize(0), 0);
    }

    private static void onceForEachAnswer() {
        Study study = dayOne(2, 2);
        answerAll(study, 0, 1);
        Expect.same("once", study.check(0, 1), true);
        Refused.state(study, "twice", () -> study.check(0, 1));
        study.endDay();
        Refused.state(study, "on the next day", () -> study.check(0, 1));
        study.check(1, 2);
        Refused.state(study, "twice, behind a wrong one", () -> study.check(1, 1));

        Study gone = dayOne(3, 3);
        answerAll(gone, 0, 1, 2);
        gone.check(0, 1);
        gone.check(1, 2);
        gone.check(2, 2);
        Refused.state(gone, "the answer is gone", () -> gone.check(0, 1));
        gone.endDay();
        answerAll(gone, 0, 1);
        Expect.same("another answer behind a right one", gone.check(0, 1), true);
        Expect.same("another answer behind a wrong one", gone.check(1, 1), true);
        Refused.state(gone, "twice again", () -> gone.check(0, 1));
    }

    private static void sameAndOtherAnswers() {
        for (int first = 0; first <= 9; first += 3) {
            for (int second = 0; second <= 9; second++) {
                Study study = dayOne(1, 1);
                study.visit(0, 'a', first);
                Expect.same(first + " then " + second, study.check(0, second), first == second);
                Expect.same("faults", study.faults(0), first == second ? 0 : 1);
                Expect.same("the first answer", study.answerOf(0), first);
                Expect.same("still answered", study.stateOf(0), 'a');
            }
        }
    }

    private static void faultOfTheOneWhoTookIt() {
        Study study = dayOne(2, 1);
        answerAll(study, 0, 1);
        study.check(1, 2);
        Expect.same("of the first", study.faults(0), 0);
        Expect.same("of the second", study.faults(1), 1);
        study.endDay();
        study.check(0, 2);
        Expect.same("of the first, a day later", study.faults(0), 1);
        Expect.same("of the second, a day later", study.faults(1), 1);

        // The house 0 answers to the first one, who is barred, and then to the second one.
        Study again = dayOne(2, 2);
        answerAll(again, 0, 1);
        again.check(0, 2);
        again.check(1, 2);
        again.endDay();
        answerAll(again, 0);
        again.check(0, 2);
        Expect.same("of the barred one", again.faults(0), 2);
        Expect.same("of the one who took the new answer", again.faults(1), 1);
        Expect.same("the new answer is kept", again.answerOf(0), 1);
    }

    private static void eachAnswerOfAllDaysIsGone() {
        Study study = dayOne(5, 5);
        answerAll(study, 0, 1);
        study.check(0, 1);
        study.endDay();
        answerAll(study, 2);
        study.endDay();
        answerAll(study, 3);
        study.check(2, 2);
        study.check(1, 2);
        for (int house = 0; house < 4; house++) {
            int asked = house;
            Expect.same("house " + house, study.stateOf(house), 'w');
            Expect.same("house " + house + " from the next day on", study.wantedFrom(house), 4);
            Refused.element(study, "answer of " + house, () -> study.answerOf(asked));
            Refused.element(study, "weight of " + house, () -> study.weight(asked));
        }
        Expect.same("the house 4 was wanted before", study.wantedFrom(4), 1);
        Expect.same("no answers", study.answersTo(0), 0);
        Expect.same("nothing in the sum", study.weightedSum(), 0L);
        study.endDay();
        Expect.same("all are in the next round", study.roundSize(1), 5);
    }

    private static void answersToOthersStay() {
        Study study = dayOne(4, 2);
        answerAll(study, 0, 1, 2, 3);
        study.check(2, 2);
        study.check(0, 2);
        study.check(1, 2);
        Expect.same("the house 2", study.answerOf(2), 1);
        Expect.same("the house 3", study.stateOf(3), 'a');
        Expect.same("two answers", study.answersTo(1), 2);
        Expect.same("one fault", study.faults(1), 1);
        Refused.state(study, "the house 2 was checked", () -> study.check(2, 1));
        Expect.same("the house 3 was not", study.check(3, 1), true);
    }

    private static void visitsOfTheBarred() {
        Study study = dayOne(5, 3);
        answerAll(study, 0, 1);
        study.check(0, 2);
        study.check(1, 2);
        for (char outcome : new char[] {'a', 'n', 'r', 'e'}) {
            Refused.state(study, "of the barred one, " + outcome, () -> study.visit(2, outcome, 1));
            Refused.state(study, "told already, " + outcome, () -> study.visit(0, outcome, 1));
        }
        Expect.same("of the other one", study.visit(3, 'a', 1), 1);
        Expect.same("the house 2 is as it was", study.wantedFrom(2), 1);
        study.endDay();
        Expect.same("the other one on the next day", study.visit(2, 'a', 1), 1);
        Expect.same("the lost ones too", study.visit(0, 'a', 1), 1);
    }

    private static void barredOnTheLastDay() {
        Study study = Studies.drawn(50, 50);
        study.addInterviewer(50, 1, 600);
        Studies.endDays(study, 99);
        answerAll(study, 0, 1);
        study.check(0, 2);
        study.check(1, 2);
        Expect.same("wanted behind the last day", study.wantedFrom(0), 100);
        Expect.same("state", study.stateOf(1), 'w');
    }

    /** The house 0 is visited with these outcomes, as soon as it is in a round again; the house 1 is undrawn. */
    private static Study losing(String outcomes) {
        Study study = dayOne(1, 1);
        study.addHouse(0, 50, 0);
        for (int k = 0; k < outcomes.length(); k++) {
            for (int day = 0; day < 4 && study.roundSize(0) + study.roundSize(1) == 0; day++) {
                Expect.same("nothing is lost yet", study.endDay(), 0);
            }
            study.visit(0, outcomes.charAt(k), 0);
            if (k < outcomes.length() - 1) {
                Expect.same("nothing is lost yet", study.endDay(), 0);
            }
        }
        return study;
    }

    private static void eachWayToBeLost() {
        for (String outcomes : new String[] {"e", "ne", "rr", "nrr", "nnn", "rnnn", "nrnn"}) {
            Study study = losing(outcomes);
            Expect.same("undrawn before the day ends", study.stateOf(1), 'u');
            Expect.same(outcomes, study.endDay(), 1);
            Expect.same("drawn", study.stateOf(1), 'w');
            Expect.same("wanted from this day on", study.wantedFrom(1), study.day());
            Expect.same("no target of its own", study.target(0), 1000);
        }
    }

    private static void notLostIsNotReplaced() {
        for (String outcomes : new String[] {"a", "n", "r", "nn", "nr", "rn", "nnr", "nra"}) {
            Study study = losing(outcomes);
            study.setChance(6);
            Expect.same(outcomes, study.endDay(), 0);
            Expect.same("not drawn", study.stateOf(1), 'u');
            Expect.same("no step of the chance number", study.setChance(1), 6);
        }
        // An answer that is gone is no loss of the house.
        Study gone = dayOne(2, 2);
        gone.addHouse(0, 50, 0);
        answerAll(gone, 0, 1);
        gone.check(0, 2);
        gone.check(1, 2);
        Expect.same("gone answers", gone.endDay(), 0);
    }

    private static void onThisDayOnly() {
        Study study = losing("e");
        study.addHouse(0, 50, 0);
        Expect.same("on this day", study.endDay(), 1);
        Expect.same("not on the next one", study.endDay(), 0);
        Study late = dayOne(1, 1);
        late.visit(0, 'e', 0);
        Expect.same("nothing is undrawn", late.endDay(), 0);
        late.addHouse(0, 50, 0);
        Expect.same("too late", late.endDay(), 0);
        Expect.same("undrawn still", late.stateOf(1), 'u');
    }

    /**
     * The house 0 of the stratum 1 and the house 1 of the stratum 0 are lost. The chance numbers behind 3 are 15654
     * and 42739: 15654 leaves 0 among the houses 3 and 5, 42739 leaves 1 among the houses 2, 4 and 6. In the other
     * order they would be the houses 2 and 5.
     */
    private static void byRisingNumbers() {
        Study study = new Study();
        study.addStratum();
        study.addStratum();
        study.addHouse(1, 50, 0);
        study.addHouse(0, 50, 0);
        study.draw(0, 1);
        study.draw(1, 1);
        for (int house = 2; house < 7; house++) {
            study.addHouse(house % 2, 50, 0);
        }
        study.addInterviewer(50, 1, 600);
        study.endDay();
        study.visit(1, 'e', 0);
        study.visit(0, 'e', 0);
        study.setChance(3);
        Expect.same("two", study.endDay(), 2);
        String states = "";
        for (int house = 0; house < 7; house++) {
            states += study.stateOf(house);
        }
        Expect.same("states", states, "eeuwwuu");
        Expect.same("two steps", study.setChance(0), 42739);
    }

    private static void lastUndrawnHouse() {
        Study study = dayOne(3, 3);
        study.addHouse(0, 50, 0);
        for (int house = 0; house < 3; house++) {
            study.visit(house, 'e', 0);
        }
        study.setChance(9);
        Expect.same("one for three", study.endDay(), 1);
        Expect.same("one step", study.setChance(9), 22272);
        study.visit(3, 'e', 0);
        Expect.same("none for one", study.endDay(), 0);
        Expect.same("no step", study.setChance(0), 9);
    }

    private static void undrawnInAnotherStratumOnly() {
        Study study = dayOne(1, 1);
        study.addStratum();
        study.addHouse(1, 50, 0);
        study.visit(0, 'e', 0);
        Expect.same("none of the same stratum", study.endDay(), 0);
        Expect.same("the other stratum's", study.stateOf(1), 'u');
    }

    private static void nextDayBegins() {
        Study study = losing("e");
        Expect.same("one is drawn", study.endDay(), 1);
        Expect.same("the next day", study.day(), 2);
        Expect.same("its round has the house that was drawn", study.roundAt(0, 0), 1);
        Expect.same("its visit can be told", study.visit(1, 'a', 0), 0);
    }

    private static void lowestAndHighestAnswer() {
        Study study = dayOne(2, 2);
        study.visit(0, 'a', 0);
        study.visit(1, 'a', 9);
        Expect.same("0", study.check(0, 0), true);
        Expect.same("9", study.check(1, 9), true);
        Study other = dayOne(2, 1);
        other.visit(0, 'a', 0);
        other.visit(1, 'a', 9);
        Expect.same("9 for 0", other.check(0, 9), false);
        Expect.same("0 for 9", other.check(1, 0), false);
    }

    private static void checkOfNoHouse() {
        Study none = new Study();
        Refused.index(none, "without houses", () -> none.check(0, 0));
        Study study = dayOne(2, 2);
        for (int house : new int[] {-1, 2, 23, 24, MIN_VALUE, MAX_VALUE}) {
            Refused.index(study, "house " + house, () -> study.check(house, 0));
        }
    }

    private static void answerOutOfRange() {
        Study study = dayOne(1, 1);
        answerAll(study, 0);
        for (int answer : new int[] {-1, 10, MIN_VALUE, MAX_VALUE}) {
            Refused.argument(study, "answer " + answer, () -> study.check(0, answer));
        }
        Expect.same("can still be checked", study.check(0, 1), true);
    }

    private static void notAnswered() {
        Study study = dayOne(2, 2);
        study.addHouse(0, 50, 0);
        Refused.state(study, "wanted", () -> study.check(0, 0));
        Refused.state(study, "undrawn", () -> study.check(2, 0));
        for (String outcomes : new String[] {"n", "r", "e", "rr", "nnn"}) {
            Study lost = losing(outcomes);
            Refused.state(lost, outcomes, () -> lost.check(0, 0));
        }
        answerAll(study, 0, 1);
        study.check(0, 2);
        study.check(1, 2);
        Refused.state(study, "gone", () -> study.check(0, 1));
    }

    private static void checkedAlready() {
        Study right = dayOne(1, 1);
        answerAll(right, 0);
        right.check(0, 1);
        Study wrong = dayOne(1, 1);
        answerAll(wrong, 0);
        wrong.check(0, 2);
        for (int answer = 0; answer < 4; answer++) {
            int now = answer;
            Refused.state(right, "behind the same answer", () -> right.check(0, now));
            Refused.state(wrong, "behind another one", () -> wrong.check(0, now));
        }
        Expect.same("one fault", wrong.faults(0), 1);
    }

    private static void noneToAllAreReplaced() {
        for (int lost = 0; lost <= 12; lost++) {
            Study study = dayOne(12, 12);
            for (int house = 0; house < 12; house++) {
                study.addHouse(0, 50, 0);
            }
            for (int house = 0; house < lost; house++) {
                study.visit(house, 'e', 0);
            }
            Expect.same("lost", study.endDay(), lost);
            Expect.same("in the round", study.roundSize(0), 12);
        }
    }

    private static void lastDay() {
        Study study = Studies.drawn(50, 50);
        study.addHouse(0, 50, 0);
        study.addInterviewer(50, 1, 600);
        Studies.endDays(study, 99);
        study.visit(0, 'e', 0);
        study.visit(1, 'n', 0);
        Refused.state(study, "on the day 99", study::endDay);
        Refused.state(study, "and again", study::endDay);
        Expect.same("nothing is drawn", study.stateOf(2), 'u');
        Expect.same("the round stays", study.roundSize(0), 2);
    }

    private static void noneToTwoFaults() {
        Study study = dayOne(3, 3);
        answerAll(study, 0, 1, 2);
        for (int faults = 0; faults < 2; faults++) {
            Expect.same("faults", study.faults(0), faults);
            study.check(faults, 2);
        }
        Expect.same("two", study.faults(0), 2);
        Refused.state(study, "no third one", () -> study.check(2, 2));
        Studies.endDays(study, 3);
        Expect.same("two for good", study.faults(0), 2);
        Expect.same("the other one's", study.faults(1), 0);
    }

    private static void faultsOfNobody() {
        Study none = new Study();
        Refused.index(none, "nobody at all", () -> none.faults(0));
        Study study = dayOne(1, 1);
        for (int number : new int[] {-1, 2, 4, MIN_VALUE, MAX_VALUE}) {
            Refused.index(study, "interviewer " + number, () -> study.faults(number));
        }
    }

    private static void noneToAllAnswers() {
        Study study = dayOne(20, 20);
        for (int house = 0; house < 20; house++) {
            Expect.same("answers", study.answersTo(0), house);
            answerAll(study, house);
        }
        Expect.same("all", study.answersTo(0), 20);
        Expect.same("nobody asked for the second one", study.answersTo(1), 0);
        study.check(0, 2);
        study.check(1, 2);
        Expect.same("none", study.answersTo(0), 0);
    }

    private static void answersToNobody() {
        Study none = new Study();
        Refused.index(none, "nobody at all", () -> none.answersTo(0));
        Study study = dayOne(1, 1);
        for (int number : new int[] {-1, 2, 4, MIN_VALUE, MAX_VALUE}) {
            Refused.index(study, "interviewer " + number, () -> study.answersTo(number));
        }
    }
}
