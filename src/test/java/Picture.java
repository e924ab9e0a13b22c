/** All that can be asked of a study, and what it does when it goes on, as one text. */
final class Picture {
    /** The most calls that a picture makes of one object, with some to spare. */
    private static final int CALLS = 280;

    private final StringBuilder text = new StringBuilder();
    private final Fieldbook book;

    private Picture(Fieldbook book) {
        this.book = book;
    }

    /** What is kept and can't be asked, such as which visits were told, shows only when the study goes on. */
    static String of(Study study) {
        if (study.callsToMakeItAgain() + CALLS > Study.MOST_CALLS) {
            throw new AssertionError("the study is too long for a picture of it");
        }
        Picture now = new Picture(study.again());
        now.putNow();
        Picture later = new Picture(study.again());
        later.putLater();
        return now.text + "\n" + later.text;
    }

    private void putNow() {
        put("day", book::day);
        put("chance", () -> book.setChance(0));
        for (int stratum = -1; stratum <= 4; stratum++) {
            int asked = stratum;
            put("target " + asked, () -> book.target(asked));
        }
        for (int interviewer = -1; interviewer <= 4; interviewer++) {
            putInterviewer(interviewer);
        }
        for (int house = -1; house <= 24; house++) {
            putHouse(house);
        }
        for (int language = -1; language <= 3; language++) {
            int asked = language;
            put("weightOfLanguage " + asked, () -> book.weightOfLanguage(asked));
        }
        put("weightedSum", book::weightedSum);
        put("weightedMean", book::weightedMean);
        put("rate", book::rate);
        put("isSound", book::isSound);
    }

    private void putInterviewer(int asked) {
        Object size = put("roundSize " + asked, () -> book.roundSize(asked));
        put("roundMinutes", () -> book.roundMinutes(asked));
        put("faults", () -> book.faults(asked));
        put("answersTo", () -> book.answersTo(asked));
        for (int index = 0; size instanceof Integer && index < (Integer) size; index++) {
            int place = index;
            put("at " + place, () -> book.roundAt(asked, place));
        }
    }

    private void putHouse(int asked) {
        put("house " + asked + " stateOf", () -> book.stateOf(asked));
        put("wantedFrom", () -> book.wantedFrom(asked));
        put("codeOf", () -> book.codeOf(asked));
        put("answerOf", () -> book.answerOf(asked));
        put("weight", () -> book.weight(asked));
        put("weightAnew", () -> book.weightAnew(asked));
    }

    private void putLater() {
        for (int stratum = 0; stratum < 4; stratum++) {
            int asked = stratum;
            put("draw " + asked, () -> book.draw(asked, 1));
        }
        for (int house = 0; house < 24; house++) {
            int asked = house;
            put("check " + asked, () -> book.check(asked, 9));
        }
        visitAll('n');
        put("endDay", book::endDay);
        visitAll('r');
        for (int day = 0; day < 3; day++) {
            put("endDay", book::endDay);
        }
        visitAll('r');
        for (int house = 0; house < 24; house++) {
            int asked = house;
            put("code " + asked, () -> book.codeOf(asked));
        }
        put("addInterviewer", () -> book.addInterviewer(0, 7, 600));
        put("addStratum", book::addStratum);
        put("addHouse", () -> book.addHouse(0, 0, 0));
    }

    private void visitAll(char outcome) {
        for (int house = 0; house < 24; house++) {
            int asked = house;
            put("visit " + asked + " " + outcome, () -> book.visit(asked, outcome, 0));
        }
    }

    private Object put(String what, Expect.Call call) {
        Object outcome = Expect.outcomeOf(call);
        text.append(what).append(' ').append(outcome).append('\n');
        return outcome;
    }
}
