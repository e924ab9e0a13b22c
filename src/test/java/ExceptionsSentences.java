/** What is said of all exceptions: nothing changes, and the one that is listed first is thrown. */
final class ExceptionsSentences {
    private ExceptionsSentences() {
    }

    static void run() {
        String nothing = "A method that throws an exception changes nothing.";
        Sentences.holds(0, nothing, ExceptionsSentences::refusedAdditions);
        Sentences.holds(0, nothing, ExceptionsSentences::refusedVisitsAndChecks);
        Sentences.holds(0, nothing, ExceptionsSentences::refusedQuestions);
        Sentences.holds(0, nothing, ExceptionsSentences::refusedInANewObject);
        Sentences.holds(0, nothing, ExceptionsSentences::refusedOnTheLastDay);
        String first = "If several exceptions apply, the exception that is listed first is thrown.";
        Sentences.holds(0, first, ExceptionsSentences::firstOfAdditions);
        Sentences.holds(0, first, ExceptionsSentences::firstOfVisits);
        Sentences.holds(0, first, ExceptionsSentences::firstOfChecks);
        Sentences.holds(0, first, ExceptionsSentences::firstOfQuestions);
    }

    /**
     * A study with 4 strata, 24 houses and 4 interviewers on the day 2. The interviewer 0 is barred, and the visits to
     * the houses 8, 9 and 10 were not told; the house 11 is in the round of the interviewer 1; the house 5 has
     * answered, and the house 6 has and was checked; the answers of the houses 0, 1 and 7 are gone; the visit to the
     * house 2 was told; the house 3 has refused the interviewer 0; the house 4 is empty.
     */
    private static Study full() {
        Study study = new Study();
        for (int stratum = 0; stratum < 4; stratum++) {
            study.addStratum();
        }
        addHouses(study);
        for (int stratum = 0; stratum < 4; stratum++) {
            study.draw(stratum, 3);
        }
        addHouses(study);
        study.addInterviewer(50, 7, 150);
        for (int k = 0; k < 3; k++) {
            study.addInterviewer(50, 7, 300);
        }
        study.endDay();
        tellDayOne(study);
        study.endDay();
        study.visit(2, 'n', 0);
        study.visit(7, 'a', 1);
        study.check(1, 2);
        return study;
    }

    private static void addHouses(Study study) {
        for (int house = 0; house < 12; house++) {
            study.addHouse(house % 4, 50, house % 3);
        }
    }

    private static void tellDayOne(Study study) {
        study.visit(0, 'a', 1);
        study.visit(1, 'a', 1);
        study.visit(2, 'n', 0);
        study.visit(3, 'r', 0);
        study.visit(4, 'e', 0);
        study.visit(5, 'a', 4);
        study.visit(6, 'a', 5);
        study.check(6, 5);
        study.check(0, 2);
    }

    private static void refusedAdditions() {
        Study study = full();
        Expect.same("the interviewer 0 is barred", study.faults(0), 2);
        Refused.argument(study, "setChance", () -> study.setChance(-1));
        Refused.state(study, "addStratum", study::addStratum);
        Refused.index(study, "addHouse, stratum", () -> study.addHouse(4, 0, 0));
        Refused.argument(study, "addHouse, place", () -> study.addHouse(0, 100, 0));
        Refused.argument(study, "addHouse, language", () -> study.addHouse(0, 0, 3));
        Refused.state(study, "addHouse", () -> study.addHouse(0, 0, 0));
        Refused.argument(study, "addInterviewer, home", () -> study.addInterviewer(100, 1, 30));
        Refused.argument(study, "addInterviewer, languages", () -> study.addInterviewer(0, 8, 30));
        Refused.argument(study, "addInterviewer, minutes", () -> study.addInterviewer(0, 1, 29));
        Refused.state(study, "addInterviewer", () -> study.addInterviewer(0, 1, 30));
        Refused.index(study, "draw, stratum", () -> study.draw(4, 1));
        Refused.argument(study, "draw, houses", () -> study.draw(0, 0));
        // Two houses of the stratum 0 are undrawn, as one replaces the house 4.
        Refused.state(study, "draw", () -> study.draw(0, 3));
    }

    private static void refusedVisitsAndChecks() {
        Study study = full();
        Refused.index(study, "visit, house", () -> study.visit(24, 'a', 0));
        Refused.argument(study, "visit, outcome", () -> study.visit(11, 'x', 0));
        Refused.argument(study, "visit, answer", () -> study.visit(11, 'a', 10));
        Refused.state(study, "visit, in no round", () -> study.visit(3, 'r', 0));
        Refused.state(study, "visit, told", () -> study.visit(2, 'n', 0));
        Refused.state(study, "visit, told, and the answer is gone", () -> study.visit(7, 'a', 0));
        Refused.state(study, "visit, barred", () -> study.visit(8, 'e', 0));
        Refused.index(study, "check, house", () -> study.check(24, 0));
        Refused.argument(study, "check, answer", () -> study.check(5, 10));
        Refused.state(study, "check, checked", () -> study.check(6, 0));
        Refused.state(study, "check, gone", () -> study.check(0, 0));
        Refused.state(study, "check, wanted", () -> study.check(11, 0));
        Expect.same("the open visit", study.visit(11, 'a', 2), 1);
        Expect.same("the open check", study.check(5, 4), true);
    }

    private static void refusedQuestions() {
        Study study = full();
        Refused.index(study, "roundSize", () -> study.roundSize(4));
        Refused.index(study, "roundAt, interviewer", () -> study.roundAt(4, 0));
        Refused.element(study, "roundAt, index", () -> study.roundAt(1, 2));
        Refused.index(study, "roundMinutes", () -> study.roundMinutes(-1));
        Refused.index(study, "stateOf", () -> study.stateOf(24));
        Refused.index(study, "wantedFrom, house", () -> study.wantedFrom(-1));
        Refused.state(study, "wantedFrom", () -> study.wantedFrom(5));
        Refused.index(study, "codeOf", () -> study.codeOf(24));
        Refused.index(study, "answerOf, house", () -> study.answerOf(-1));
        Refused.element(study, "answerOf", () -> study.answerOf(0));
        Refused.index(study, "faults", () -> study.faults(4));
        Refused.index(study, "answersTo", () -> study.answersTo(-1));
        Refused.index(study, "target", () -> study.target(4));
        Refused.index(study, "weight, house", () -> study.weight(24));
        Refused.element(study, "weight", () -> study.weight(0));
        Refused.index(study, "weightAnew, house", () -> study.weightAnew(-1));
        Refused.element(study, "weightAnew", () -> study.weightAnew(7));
        Refused.argument(study, "weightOfLanguage", () -> study.weightOfLanguage(3));
    }

    private static void refusedInANewObject() {
        Study study = new Study();
        Refused.arithmetic(study, "weightedMean", study::weightedMean);
        Refused.arithmetic(study, "rate", study::rate);
        Refused.index(study, "addHouse", () -> study.addHouse(0, 0, 0));
        Refused.index(study, "draw", () -> study.draw(0, 1));
        Refused.index(study, "visit", () -> study.visit(0, 'a', 0));
        Refused.index(study, "check", () -> study.check(0, 0));
        Expect.same("the first stratum", study.addStratum(), 0);
    }

    private static void refusedOnTheLastDay() {
        Study study = Studies.drawn(50, 50);
        study.addHouse(0, 50, 0);
        study.addInterviewer(50, 1, 600);
        Studies.endDays(study, 99);
        study.visit(0, 'e', 0);
        Refused.state(study, "endDay", study::endDay);
        Expect.same("the other visit", study.visit(1, 'a', 0), 0);
    }

    private static void firstOfAdditions() {
        Study study = full();
        Refused.index(study, "stratum before place and 24 houses", () -> study.addHouse(4, 100, 0));
        Refused.index(study, "stratum before language and 24 houses", () -> study.addHouse(-1, 0, 3));
        Refused.index(study, "stratum before 24 houses", () -> study.addHouse(4, 0, 0));
        Refused.argument(study, "place before 24 houses", () -> study.addHouse(0, -1, 0));
        Refused.argument(study, "language before 24 houses", () -> study.addHouse(0, 0, -1));
        Refused.argument(study, "home before 4 interviewers", () -> study.addInterviewer(-1, 1, 30));
        Refused.argument(study, "languages before 4 interviewers", () -> study.addInterviewer(0, 0, 30));
        Refused.argument(study, "minutes before 4 interviewers", () -> study.addInterviewer(0, 1, 601));
        Refused.index(study, "stratum before no houses", () -> study.draw(4, 0));
        Refused.index(study, "stratum before 25 houses", () -> study.draw(-1, 25));
        Refused.index(study, "stratum before too few", () -> study.draw(4, 24));
        Refused.argument(study, "25 houses before too few", () -> study.draw(0, 25));
    }

    private static void firstOfVisits() {
        Study study = full();
        Refused.index(study, "house before outcome", () -> study.visit(24, 'x', 0));
        Refused.index(study, "house before answer", () -> study.visit(-1, 'a', 10));
        Refused.index(study, "house before no round", () -> study.visit(24, 'a', 0));
        Refused.argument(study, "outcome before no round", () -> study.visit(3, 'x', 0));
        Refused.argument(study, "answer before no round", () -> study.visit(3, 'n', 10));
        Refused.argument(study, "outcome before told already", () -> study.visit(2, 'x', 0));
        Refused.argument(study, "answer before told already", () -> study.visit(2, 'n', -1));
        Refused.argument(study, "outcome before barred", () -> study.visit(8, 'x', 0));
        Refused.argument(study, "answer before barred", () -> study.visit(8, 'e', 10));
    }

    private static void firstOfChecks() {
        Study study = full();
        Refused.index(study, "house before answer", () -> study.check(24, 10));
        Refused.index(study, "house before not answered", () -> study.check(-1, 0));
        Refused.argument(study, "answer before not answered", () -> study.check(0, 10));
        Refused.argument(study, "answer before checked already", () -> study.check(6, -1));
    }

    private static void firstOfQuestions() {
        Study study = full();
        Refused.index(study, "interviewer before place", () -> study.roundAt(4, -1));
        Refused.index(study, "house before not wanted", () -> study.wantedFrom(24));
        Refused.index(study, "house before no answer", () -> study.answerOf(24));
        Refused.index(study, "house before no weight", () -> study.weight(24));
        Refused.index(study, "house before no weight anew", () -> study.weightAnew(24));
    }
}
