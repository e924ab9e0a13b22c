import static java.lang.Integer.MAX_VALUE;
import static java.lang.Integer.MIN_VALUE;

/** Strata and houses, drawing, interviewers; promises 1 to 6. */
final class StrataSentences {
    private StrataSentences() {
    }

    static void run() {
        terms();
        promises();
    }

    private static void terms() {
        Sentences.holds(0, "At most 4 strata exist, numbered from 0, and at most 24 houses, numbered from 0.",
                StrataSentences::fullOfStrataAndHouses);
        Sentences.holds(0, "A house has a stratum, a place from 0 to 99 along a road, and a language from 0 to 2.",
                StrataSentences::outermostPlacesAndLanguages);
        Sentences.holds(0, "A house is undrawn, 'u', at first; then it is wanted, 'w', it has answered, 'a', it has "
                + "refused, 'r', it was given up, 'g', or it is empty, 'e'.", StrataSentences::allStates);
        Sentences.holds(0, "There is a chance number, from 0 to 65535.", StrataSentences::chanceNumberStaysInRange);
        Sentences.holds(0, "When a house is drawn from a stratum, the chance number becomes the remainder that its "
                + "product with 1103, plus 12345, leaves when it is divided by 65536.",
                StrataSentences::chanceNumberWrapsAround);
        Sentences.holds(0, "Of the undrawn houses of the stratum, by rising numbers, the one is drawn whose place in "
                + "this row, counted from 0, is the remainder of the chance number divided by how many they are.",
                StrataSentences::endsOfTheRow);
        Sentences.holds(0, "A house that is drawn is wanted from the next day on.",
                StrataSentences::wantedFromTheNextDayOn);
        Sentences.holds(0, "At most 4 interviewers exist, numbered from 0.", StrataSentences::fullOfInterviewers);
        Sentences.holds(0, "An interviewer has a home, which is a place, a set of languages, and minutes for a day.",
                StrataSentences::outermostInterviewers);
    }

    private static void promises() {
        Sentences.holds(1, "Creates a study without strata, houses and interviewers, on the day 0, with the chance "
                + "number 1.", StrataSentences::newObject);
        Sentences.holds(2, "- `chance`: the chance number, 0 to 65535", StrataSentences::outermostChanceNumbers);
        Sentences.holds(2, "Returns the chance number before the call.", StrataSentences::chanceNumberBefore);
        Sentences.holds(2, "Throws `IllegalArgumentException` if it is out of range",
                StrataSentences::chanceNumberOutOfRange);
        Sentences.holds(3, "Throws `IllegalStateException` if there are 4 strata", StrataSentences::fifthStratum);
        Sentences.holds(4, "- `place`: its place, 0 to 99", StrataSentences::outermostPlaces);
        Sentences.holds(4, "- `language`: its language, 0 to 2", StrataSentences::allLanguagesOfHouses);
        Sentences.holds(4, "Throws `IndexOutOfBoundsException` if there is no such stratum",
                StrataSentences::houseOfNoStratum);
        Sentences.holds(4, "Throws `IllegalArgumentException` if the place or the language is out of range",
                StrataSentences::placeOrLanguageOutOfRange);
        Sentences.holds(4, "Throws `IllegalStateException` if there are 24 houses", StrataSentences::house25);
        Sentences.holds(5, "Adds an interviewer without faults, who has rounds from the next day on.",
                StrataSentences::newInterviewer);
        Sentences.holds(5, "- `home`: the home, 0 to 99", StrataSentences::outermostHomes);
        Sentences.holds(5, "- `languages`: the set of languages, 1 to 7, in which the bit k is 1 if the interviewer "
                + "speaks the language k", StrataSentences::eachSetOfLanguages);
        Sentences.holds(5, "- `minutes`: the minutes for a day, 30 to 600", StrataSentences::outermostMinutes);
        Sentences.holds(5, "Throws `IllegalArgumentException` if a number is out of range",
                StrataSentences::interviewerOutOfRange);
        Sentences.holds(5, "Throws `IllegalStateException` if there are 4 interviewers",
                StrataSentences::fifthInterviewer);
        Sentences.holds(6, "- `houses`: the number of houses, 1 to 24", StrataSentences::fewestAndMostHouses);
        Sentences.holds(6, "Returns the number of the house that is drawn last.", StrataSentences::houseDrawnLast);
        Sentences.holds(6, "Throws `IndexOutOfBoundsException` if there is no such stratum",
                StrataSentences::drawnFromNoStratum);
        Sentences.holds(6, "Throws `IllegalArgumentException` if the number of houses is out of range",
                StrataSentences::tooFewOrTooManyHouses);
        Sentences.holds(6, "Throws `IllegalStateException` if fewer houses of the stratum are undrawn",
                StrataSentences::fewerAreUndrawn);
    }

    private static int chanceOf(Study study) {
        int chance = study.setChance(0);
        study.setChance(chance);
        return chance;
    }

    private static Study withStrata(int strata) {
        Study study = new Study();
        for (int k = 0; k < strata; k++) {
            study.addStratum();
        }
        return study;
    }

    private static void fullOfStrataAndHouses() {
        Study study = new Study();
        for (int number = 0; number < 4; number++) {
            Expect.same("stratum", study.addStratum(), number);
        }
        Refused.state(study, "a fifth stratum", study::addStratum);
        for (int number = 0; number < 24; number++) {
            Expect.same("house", study.addHouse(3 - number % 4, 0, 0), number);
        }
        Refused.state(study, "house 25", () -> study.addHouse(0, 0, 0));
        Expect.same("the last house of the last stratum", study.stateOf(23), 'u');
        study.draw(3, 6);
        Expect.same("target of the last stratum", study.target(3), 6000);
        Expect.same("a house of the last stratum", study.stateOf(20), 'w');
        Expect.same("a house of the stratum 0", study.stateOf(23), 'u');
    }

    private static void outermostPlacesAndLanguages() {
        Study study = withStrata(1);
        study.addHouse(0, 0, 0);
        study.addHouse(0, 99, 2);
        study.draw(0, 2);
        study.addInterviewer(0, 4, 600);
        study.addInterviewer(0, 1, 600);
        study.endDay();
        Expect.same("of the language 2", study.roundAt(0, 0), 1);
        Expect.same("at the place 99", study.roundMinutes(0), 99 + 30 + 99);
        Expect.same("of the language 0", study.roundAt(1, 0), 0);
        Expect.same("at the place 0", study.roundMinutes(1), 30);
    }

    private static void allStates() {
        Study study = Studies.drawn(50, 50, 50, 50, 50);
        study.addInterviewer(50, 1, 600);
        study.addInterviewer(50, 1, 600);
        study.endDay();
        study.addHouse(0, 50, 0);
        study.visit(0, 'a', 0);
        study.visit(1, 'r', 0);
        study.visit(2, 'n', 0);
        study.endDay();
        study.visit(2, 'n', 0);
        Studies.endDays(study, 2);
        study.visit(1, 'r', 0);
        study.visit(2, 'n', 0);
        study.visit(3, 'e', 0);
        String states = "";
        for (int house = 0; house < 6; house++) {
            states += study.stateOf(house);
        }
        Expect.same("states", states, "argewu");
    }

    private static void chanceNumberStaysInRange() {
        Study study = Studies.undrawn(new int[24]);
        study.setChance(65535);
        long due = 65535;
        for (int house = 0; house < 24; house++) {
            study.draw(0, 1);
            due = (due * 1103 + 12345) % 65536;
            Expect.same("behind draw " + house, (long) chanceOf(study), due);
        }
    }

    /** 34569 * 1103 + 12345 is 582 * 65536, and 62554 * 1103 + 12345 is 1053 * 65536 - 1. */
    private static void chanceNumberWrapsAround() {
        int[][] steps = {{0, 12345}, {48, 65289}, {49, 856}, {34569, 0}, {62554, 65535}, {65535, 11242}};
        Study study = Studies.undrawn(new int[8]);
        for (int[] step : steps) {
            study.setChance(step[0]);
            study.draw(0, 1);
            Expect.same("behind " + step[0], chanceOf(study), step[1]);
        }
        study.setChance(2);
        study.draw(0, 2);
        Expect.same("behind two houses", chanceOf(study), 5778);
        Refused.state(study, "none is left", () -> study.draw(0, 1));
        Expect.same("behind no house", chanceOf(study), 5778);
    }

    private static void endsOfTheRow() {
        Study study = withStrata(2);
        for (int house = 0; house < 8; house++) {
            study.addHouse(1 - house % 2, 0, 0);
        }
        study.setChance(34569);
        Expect.same("0 among 4", study.draw(1, 1), 0);
        study.setChance(48);
        // 65289 is a multiple of 3.
        Expect.same("0 among 3", study.draw(1, 1), 2);
        study.setChance(62554);
        // 65535 leaves 1 among 2.
        Expect.same("the last one of 2", study.draw(1, 1), 6);
        study.setChance(62554);
        Expect.same("the only one", study.draw(1, 1), 4);
        study.setChance(62554);
        // 65535 leaves 3 among 4.
        Expect.same("the last one of 4", study.draw(0, 1), 7);
    }

    private static void wantedFromTheNextDayOn() {
        Study study = Studies.undrawn(50, 50, 50);
        study.addInterviewer(50, 1, 600);
        int first = study.draw(0, 1);
        Expect.same("drawn on the day 0", study.wantedFrom(first), 1);
        Studies.endDays(study, 98);
        int second = study.draw(0, 1);
        Expect.same("drawn on the day 98", study.wantedFrom(second), 99);
        Expect.same("not in a round on the day 98", study.roundSize(0), 1);
        study.endDay();
        Expect.same("in a round on the day 99", study.roundSize(0), 2);
        int third = study.draw(0, 1);
        Expect.same("drawn on the last day", study.wantedFrom(third), 100);
    }

    private static void fullOfInterviewers() {
        Study study = new Study();
        for (int number = 0; number < 4; number++) {
            Expect.same("interviewer", study.addInterviewer(0, 1, 30), number);
        }
        Refused.state(study, "a fifth one", () -> study.addInterviewer(0, 1, 30));
        Expect.same("the last one", study.faults(3), 0);
        Expect.fails("number 4", IndexOutOfBoundsException.class, () -> study.faults(4));
    }

    private static void outermostInterviewers() {
        Study study = Studies.drawn(0, 99);
        study.addHouse(0, 99, 2);
        study.draw(0, 1);
        study.addInterviewer(99, 1, 30);
        study.addInterviewer(0, 7, 600);
        study.endDay();
        Expect.same("home 99, 30 minutes", study.roundMinutes(0), 30);
        Expect.same("home 99, language 0", study.roundAt(0, 0), 1);
        Expect.same("home 0, all languages", study.roundSize(1), 2);
        Expect.same("home 0", study.roundMinutes(1), 30 + 99 + 30 + 99);
    }

    private static void newObject() {
        Study study = new Study();
        Expect.same("day", study.day(), 0);
        Expect.same("sum", study.weightedSum(), 0L);
        Expect.same("sound", study.isSound(), true);
        for (int language = 0; language < 3; language++) {
            Expect.same("language", study.weightOfLanguage(language), 0);
        }
        Refused.index(study, "stratum", () -> study.target(0));
        Refused.index(study, "house", () -> study.stateOf(0));
        Refused.index(study, "interviewer", () -> study.roundSize(0));
        Refused.arithmetic(study, "mean", study::weightedMean);
        Refused.arithmetic(study, "rate", study::rate);
        Expect.same("chance number", study.setChance(9), 1);
        Expect.same("a day without anything", study.endDay(), 0);
        Expect.same("another object's chance number", new Study().setChance(0), 1);
        Expect.same("another object's day", new Study().day(), 0);
    }

    private static void outermostChanceNumbers() {
        Study study = new Study();
        study.setChance(0);
        Expect.same("0", study.setChance(65535), 0);
        Expect.same("65535", study.setChance(1), 65535);
    }

    private static void chanceNumberBefore() {
        Study study = Studies.undrawn(0);
        Expect.same("of a new object", study.setChance(7), 1);
        Expect.same("as it was set", study.setChance(2), 7);
        study.draw(0, 1);
        Expect.same("behind a draw", study.setChance(2), 14551);
    }

    private static void chanceNumberOutOfRange() {
        Study study = new Study();
        for (int chance : new int[] {-1, 65536, MIN_VALUE, MAX_VALUE}) {
            Refused.argument(study, "chance " + chance, () -> study.setChance(chance));
        }
        Expect.same("stays", study.setChance(0), 1);
    }

    private static void fifthStratum() {
        Study study = withStrata(3);
        Expect.same("the fourth", study.addStratum(), 3);
        Refused.state(study, "the fifth", study::addStratum);
        Expect.fails("there is none", IndexOutOfBoundsException.class, () -> study.target(4));
    }

    private static void outermostPlaces() {
        Study study = withStrata(1);
        Expect.same("place 0", study.addHouse(0, 0, 1), 0);
        Expect.same("place 99", study.addHouse(0, 99, 1), 1);
    }

    private static void allLanguagesOfHouses() {
        Study study = withStrata(1);
        for (int language = 0; language < 3; language++) {
            Expect.same("language", study.addHouse(0, 50, language), language);
        }
    }

    private static void houseOfNoStratum() {
        Study none = new Study();
        Refused.index(none, "without strata", () -> none.addHouse(0, 0, 0));
        Study study = withStrata(2);
        for (int stratum : new int[] {-1, 2, 4, MIN_VALUE, MAX_VALUE}) {
            Refused.index(study, "stratum " + stratum, () -> study.addHouse(stratum, 0, 0));
        }
        Expect.same("no number is used up", study.addHouse(1, 0, 0), 0);
    }

    private static void placeOrLanguageOutOfRange() {
        Study study = withStrata(1);
        for (int number : new int[] {-1, 100, MIN_VALUE, MAX_VALUE}) {
            Refused.argument(study, "place " + number, () -> study.addHouse(0, number, 0));
        }
        for (int number : new int[] {-1, 3, MIN_VALUE, MAX_VALUE}) {
            Refused.argument(study, "language " + number, () -> study.addHouse(0, 0, number));
        }
        Expect.same("no number is used up", study.addHouse(0, 0, 0), 0);
    }

    private static void house25() {
        Study study = Studies.undrawn(new int[23]);
        Expect.same("house 24", study.addHouse(0, 0, 0), 23);
        Refused.state(study, "house 25", () -> study.addHouse(0, 0, 0));
        study.draw(0, 24);
        Refused.state(study, "when all are drawn", () -> study.addHouse(0, 0, 0));
    }

    private static void newInterviewer() {
        Study study = Studies.drawn(50);
        study.endDay();
        study.addInterviewer(50, 1, 600);
        Expect.same("no faults", study.faults(0), 0);
        Expect.same("no round on this day", study.roundSize(0), 0);
        Refused.state(study, "no visit on this day", () -> study.visit(0, 'a', 0));
        study.endDay();
        Expect.same("a round on the next day", study.roundSize(0), 1);
    }

    private static void outermostHomes() {
        Study study = Studies.drawn(0, 99);
        study.addInterviewer(0, 1, 30);
        study.addInterviewer(99, 1, 30);
        study.endDay();
        Expect.same("home 0", study.roundAt(0, 0), 0);
        Expect.same("home 99", study.roundAt(1, 0), 1);
    }

    private static void eachSetOfLanguages() {
        for (int languages = 1; languages <= 7; languages++) {
            Study study = withStrata(1);
            for (int language = 0; language < 3; language++) {
                study.addHouse(0, 50, language);
            }
            study.draw(0, 3);
            study.addInterviewer(50, languages, 600);
            study.endDay();
            int size = 0;
            for (int language = 0; language < 3; language++) {
                if ((languages & 1 << language) != 0) {
                    Expect.same("set " + languages, study.roundAt(0, size), language);
                    size++;
                }
            }
            Expect.same("set " + languages, study.roundSize(0), size);
        }
    }

    private static void outermostMinutes() {
        Study study = Studies.drawn(new int[24]);
        study.addInterviewer(0, 1, 30);
        study.addInterviewer(0, 1, 600);
        study.endDay();
        Expect.same("30 minutes", study.roundSize(0), 1);
        Expect.same("600 minutes", study.roundSize(1), 20);
        Expect.same("all of 600 minutes", study.roundMinutes(1), 600);
    }

    private static void interviewerOutOfRange() {
        Study study = new Study();
        for (int number : new int[] {-1, 100, MIN_VALUE, MAX_VALUE}) {
            Refused.argument(study, "home " + number, () -> study.addInterviewer(number, 1, 30));
        }
        for (int number : new int[] {-1, 0, 8, MIN_VALUE, MAX_VALUE}) {
            Refused.argument(study, "languages " + number, () -> study.addInterviewer(0, number, 30));
        }
        for (int number : new int[] {-1, 0, 29, 601, MIN_VALUE, MAX_VALUE}) {
            Refused.argument(study, "minutes " + number, () -> study.addInterviewer(0, 1, number));
        }
        Expect.same("no number is used up", study.addInterviewer(0, 1, 30), 0);
    }

    private static void fifthInterviewer() {
        Study study = new Study();
        for (int number = 0; number < 4; number++) {
            study.addInterviewer(0, 7, 600);
        }
        Refused.state(study, "the fifth", () -> study.addInterviewer(0, 7, 600));
        study.endDay();
        Refused.state(study, "nor on a later day", () -> study.addInterviewer(0, 7, 600));
    }

    private static void fewestAndMostHouses() {
        Study study = Studies.undrawn(new int[24]);
        study.draw(0, 1);
        Expect.same("one", study.target(0), 1000);
        Study most = Studies.undrawn(new int[24]);
        most.draw(0, 24);
        Expect.same("24", most.target(0), 24000);
        for (int house = 0; house < 24; house++) {
            Expect.same("all are drawn", most.stateOf(house), 'w');
        }
    }

    /** The chance numbers 16757, 14164 and 37669 leave 2 among 3, 0 among 2 and 0 among 1 houses. */
    private static void houseDrawnLast() {
        int[] due = {2, 0, 1};
        for (int houses = 1; houses <= 3; houses++) {
            Study study = Studies.undrawn(0, 0, 0);
            study.setChance(4);
            Expect.same("of " + houses, study.draw(0, houses), due[houses - 1]);
        }
    }

    private static void drawnFromNoStratum() {
        Study none = new Study();
        Refused.index(none, "without strata", () -> none.draw(0, 1));
        Study study = Studies.undrawn(0, 0);
        for (int stratum : new int[] {-1, 1, 4, MIN_VALUE, MAX_VALUE}) {
            Refused.index(study, "stratum " + stratum, () -> study.draw(stratum, 1));
        }
    }

    private static void tooFewOrTooManyHouses() {
        Study study = Studies.undrawn(new int[24]);
        for (int houses : new int[] {0, -1, 25, MIN_VALUE, MAX_VALUE}) {
            Refused.argument(study, "houses " + houses, () -> study.draw(0, houses));
        }
    }

    private static void fewerAreUndrawn() {
        Study study = Studies.undrawn(0, 0, 0);
        study.addStratum();
        Refused.state(study, "none", () -> study.draw(1, 1));
        study.addHouse(1, 0, 0);
        Refused.state(study, "3, and one of another stratum", () -> study.draw(0, 4));
        Refused.state(study, "24 of 3", () -> study.draw(0, 24));
        study.draw(0, 1);
        Refused.state(study, "2", () -> study.draw(0, 3));
        study.draw(0, 2);
        Expect.same("as many as are undrawn", study.target(0), 3000);
        Refused.state(study, "none is left", () -> study.draw(0, 1));
    }
}
