import static java.lang.Integer.MAX_VALUE;
import static java.lang.Integer.MIN_VALUE;

/** Rounds; promises 7 to 10. */
final class RoundsSentences {
    private static final String NEAREST = "Then, again and again, the nearest house from the place where the "
            + "interviewer is then is added, of several the one with the lowest number, of those houses that are "
            + "wanted from this day or from an earlier one on, whose language the interviewer speaks, that have not "
            + "refused this interviewer, that are in no round of this day, and that fit: the minutes so far, the way "
            + "there, 30 minutes for the visit and the way home from there are together not more than the minutes of "
            + "the interviewer.";

    private RoundsSentences() {
    }

    static void run() {
        terms();
        promises();
    }

    private static void terms() {
        Sentences.holds(0, "The day is 0 at first, and at most 99; there are no rounds on the day 0.",
                RoundsSentences::firstAndLastDay);
        String made = "The rounds of a day are made when it begins, one interviewer behind the other, by rising "
                + "numbers, without those who are barred.";
        Sentences.holds(0, made, RoundsSentences::onlyWhenTheDayBegins);
        Sentences.holds(0, made, RoundsSentences::lowestInterviewerFirst);
        Sentences.holds(0, made, RoundsSentences::withoutTheBarred);
        Sentences.holds(0, "A round begins at the home.", RoundsSentences::beginsAtTheHome);
        Sentences.holds(0, NEAREST, RoundsSentences::nearestFromWhereTheInterviewerIs);
        Sentences.holds(0, NEAREST, RoundsSentences::lowestOfSeveral);
        Sentences.holds(0, NEAREST, RoundsSentences::wantedFromThisDayOrEarlier);
        Sentences.holds(0, NEAREST, RoundsSentences::oneLanguageAndAllOthers);
        Sentences.holds(0, NEAREST, RoundsSentences::refusedThisInterviewer);
        Sentences.holds(0, NEAREST, RoundsSentences::refusedEachInterviewer);
        Sentences.holds(0, NEAREST, RoundsSentences::inOneRoundOnly);
        Sentences.holds(0, NEAREST, RoundsSentences::firstHouseJustFits);
        Sentences.holds(0, NEAREST, RoundsSentences::laterHouseJustFits);
        Sentences.holds(0, NEAREST, RoundsSentences::fartherOneFits);
        Sentences.holds(0, "A way takes as many minutes as the places differ.", RoundsSentences::waysUpAndDownAndNone);
        Sentences.holds(0, "The round ends when there is no such house; its minutes are those of all ways, the way "
                + "home included, and of all visits.", RoundsSentences::emptyAndFullRounds);
    }

    private static void promises() {
        Sentences.holds(7, "Returns the day.", RoundsSentences::dayRises);
        Sentences.holds(8, "Returns the number of houses, 0 if there is no round.", RoundsSentences::sizeOfNoRound);
        Sentences.holds(8, "Throws `IndexOutOfBoundsException` if there is no such interviewer",
                RoundsSentences::sizeForNobody);
        Sentences.holds(9, "- `index`: the place in the round, from 0", RoundsSentences::firstAndLastPlace);
        Sentences.holds(9, "Throws `IndexOutOfBoundsException` if there is no such interviewer",
                RoundsSentences::placeForNobody);
        Sentences.holds(9, "Throws `NoSuchElementException` if there is no such place in the round",
                RoundsSentences::noSuchPlace);
        Sentences.holds(10, "Returns the minutes, 0 if there is no house in it.", RoundsSentences::minutesOfNoRound);
        Sentences.holds(10, "Throws `IndexOutOfBoundsException` if there is no such interviewer",
                RoundsSentences::minutesForNobody);
    }

    static void expectRound(Study study, int interviewer, int minutes, int... houses) {
        String what = "round of " + interviewer + " on the day " + study.day();
        Expect.same(what + ", size", study.roundSize(interviewer), houses.length);
        Expect.same(what + ", minutes", study.roundMinutes(interviewer), minutes);
        for (int index = 0; index < houses.length; index++) {
            int place = index;
            Expect.same(what + ", at " + place, Expect.outcomeOf(() -> study.roundAt(interviewer, place)),
                    houses[place]);
        }
    }

    /** The round of one interviewer on the day 1 among houses of one language. */
    private static Study dayOne(int home, int minutes, int... places) {
        Study study = Studies.drawn(places);
        study.addInterviewer(home, 1, minutes);
        study.endDay();
        return study;
    }

    private static void firstAndLastDay() {
        Study study = Studies.drawn(50);
        study.addInterviewer(50, 1, 600);
        Expect.same("at first", study.day(), 0);
        expectRound(study, 0, 0);
        Refused.element(study, "no place on the day 0", () -> study.roundAt(0, 0));
        Refused.state(study, "no visit on the day 0", () -> study.visit(0, 'a', 1));
        Studies.endDays(study, 98);
        Expect.same("last but one", study.day(), 98);
        Expect.same("the last end", study.endDay(), 0);
        Expect.same("last", study.day(), 99);
        expectRound(study, 0, 30, 0);
        Refused.state(study, "day 100", study::endDay);
        Expect.same("a visit on the last day", study.visit(0, 'a', 1), 0);
    }

    private static void onlyWhenTheDayBegins() {
        Study study = Studies.drawn(50, 50, 50, 50);
        study.addHouse(0, 50, 0);
        study.addInterviewer(50, 1, 600);
        study.endDay();
        study.draw(0, 1);
        study.addInterviewer(50, 1, 600);
        study.visit(0, 'a', 1);
        study.visit(1, 'n', 1);
        study.visit(2, 'r', 1);
        study.visit(3, 'e', 1);
        study.check(0, 2);
        study.setChance(5);
        expectRound(study, 0, 120, 0, 1, 2, 3);
        expectRound(study, 1, 0);
        study.endDay();
        expectRound(study, 0, 60, 1, 4);
        expectRound(study, 1, 0);
    }

    private static void lowestInterviewerFirst() {
        Study study = Studies.drawn(99, 98);
        study.addInterviewer(0, 1, 228);
        study.addInterviewer(0, 1, 227);
        study.addInterviewer(99, 1, 600);
        study.endDay();
        expectRound(study, 0, 226, 1);
        expectRound(study, 1, 0);
        expectRound(study, 2, 30, 0);
    }

    private static void withoutTheBarred() {
        Study study = Studies.drawn(50, 50, 50);
        study.addInterviewer(50, 1, 60);
        study.addInterviewer(50, 1, 600);
        study.endDay();
        study.visit(0, 'a', 1);
        study.check(0, 2);
        study.endDay();
        expectRound(study, 0, 60, 1, 2);
        study.visit(1, 'a', 1);
        study.check(1, 2);
        study.endDay();
        expectRound(study, 0, 0);
        expectRound(study, 1, 90, 0, 1, 2);
    }

    private static void beginsAtTheHome() {
        // 40 minutes to 0 and 59 to 99; then 60 and 39; the way between the two is 99.
        expectRound(dayOne(40, 600, 99, 0), 0, 40 + 30 + 99 + 30 + 59, 1, 0);
        expectRound(dayOne(60, 600, 99, 0), 0, 39 + 30 + 99 + 30 + 60, 0, 1);
        expectRound(dayOne(0, 600, 99, 0), 0, 30 + 99 + 30 + 99, 1, 0);
    }

    private static void nearestFromWhereTheInterviewerIs() {
        // From 55 it is nearer to 61, although 44 is nearer to the home.
        expectRound(dayOne(50, 600, 55, 61, 44), 0, 5 + 6 + 17 + 6 + 90, 0, 1, 2);
        expectRound(dayOne(50, 600, 61, 44, 55), 0, 5 + 6 + 17 + 6 + 90, 2, 0, 1);
    }

    private static void lowestOfSeveral() {
        expectRound(dayOne(50, 600, 60, 40), 0, 10 + 20 + 10 + 60, 0, 1);
        expectRound(dayOne(50, 600, 40, 60), 0, 10 + 20 + 10 + 60, 0, 1);
        expectRound(dayOne(50, 600, 50, 50, 50), 0, 90, 0, 1, 2);
        // One minute nearer counts more than the number.
        expectRound(dayOne(50, 600, 60, 41), 0, 9 + 19 + 10 + 60, 1, 0);
    }

    private static void wantedFromThisDayOrEarlier() {
        Study study = dayOne(50, 600, 50, 51);
        study.visit(0, 'n', 0);
        study.endDay();
        expectRound(study, 0, 62, 0, 1);
        study.visit(0, 'n', 0);
        Expect.same("wanted from tomorrow's tomorrow", study.wantedFrom(0), 4);
        study.endDay();
        expectRound(study, 0, 32, 1);
        study.endDay();
        expectRound(study, 0, 62, 0, 1);
        study.endDay();
        expectRound(study, 0, 62, 0, 1);
    }

    private static void oneLanguageAndAllOthers() {
        for (int language = 0; language < 3; language++) {
            Study study = new Study();
            study.addStratum();
            study.addHouse(0, 50, language);
            study.draw(0, 1);
            study.addInterviewer(50, 7 - (1 << language), 600);
            study.addInterviewer(50, 1 << language, 600);
            study.endDay();
            expectRound(study, 0, 0);
            expectRound(study, 1, 30, 0);
        }
    }

    private static void refusedThisInterviewer() {
        Study study = Studies.drawn(50, 50);
        for (int interviewer = 0; interviewer < 4; interviewer++) {
            study.addInterviewer(50, 1, 30);
        }
        study.endDay();
        study.visit(0, 'r', 0);
        study.visit(1, 'r', 0);
        Studies.endDays(study, 3);
        // The house 0 has refused the interviewer 0, and the house 1 the interviewer 1.
        expectRound(study, 0, 30, 1);
        expectRound(study, 1, 30, 0);
        expectRound(study, 2, 0);
    }

    /** Nobody but the one interviewer has the time to go to the house. */
    private static void refusedEachInterviewer() {
        for (int refused = 0; refused < 4; refused++) {
            Study study = Studies.drawn(99);
            for (int interviewer = 0; interviewer < 4; interviewer++) {
                study.addInterviewer(0, 1, interviewer == refused ? 600 : 200);
            }
            study.endDay();
            Expect.same("the visit", study.visit(0, 'r', 0), refused);
            Studies.endDays(study, 3);
            for (int interviewer = 0; interviewer < 4; interviewer++) {
                expectRound(study, interviewer, 0);
            }
            Expect.same("wanted", study.wantedFrom(0), study.day());
        }
    }

    private static void inOneRoundOnly() {
        Study study = Studies.drawn(50);
        study.addInterviewer(50, 1, 600);
        study.addInterviewer(50, 1, 600);
        study.endDay();
        expectRound(study, 0, 30, 0);
        expectRound(study, 1, 0);
    }

    private static void firstHouseJustFits() {
        expectRound(dayOne(0, 100, 35), 0, 100, 0);
        expectRound(dayOne(0, 99, 35), 0, 0);
        expectRound(dayOne(99, 68, 80), 0, 68, 0);
        expectRound(dayOne(99, 67, 80), 0, 0);
        expectRound(dayOne(20, 30, 20, 21), 0, 30, 0);
        expectRound(dayOne(20, 31, 21), 0, 0);
        expectRound(dayOne(20, 32, 21), 0, 32, 0);
    }

    private static void laterHouseJustFits() {
        expectRound(dayOne(99, 98, 80, 90), 0, 98, 1, 0);
        expectRound(dayOne(99, 97, 80, 90), 0, 48, 1);
        expectRound(dayOne(50, 80, 45, 55), 0, 80, 0, 1);
        expectRound(dayOne(50, 79, 45, 55), 0, 40, 0);
    }

    private static void fartherOneFits() {
        // At 20 with 36 minutes behind: 31 is 11 away and 17 from home, 6 is 14 away and 8 from home.
        expectRound(dayOne(14, 88, 20, 31, 6), 0, 88, 0, 2);
        expectRound(dayOne(14, 87, 20, 31, 6), 0, 42, 0);
        expectRound(dayOne(14, 94, 20, 31, 6), 0, 94, 0, 1);
    }

    private static void waysUpAndDownAndNone() {
        expectRound(dayOne(30, 600, 30), 0, 30, 0);
        expectRound(dayOne(30, 600, 31), 0, 32, 0);
        expectRound(dayOne(30, 600, 29), 0, 32, 0);
        expectRound(dayOne(0, 600, 99), 0, 228, 0);
        expectRound(dayOne(99, 600, 0), 0, 228, 0);
        expectRound(dayOne(30, 600, 40, 40), 0, 80, 0, 1);
    }

    private static void emptyAndFullRounds() {
        expectRound(dayOne(0, 30, 1), 0, 0);
        int[] all = new int[20];
        for (int house = 0; house < 20; house++) {
            all[house] = house;
        }
        Study study = dayOne(0, 600, new int[24]);
        expectRound(study, 0, 600, all);
        expectRound(dayOne(50, 600, 40), 0, 10 + 30 + 10, 0);
    }

    private static void dayRises() {
        Study study = new Study();
        Expect.same("at first", study.day(), 0);
        study.endDay();
        Expect.same("behind one end", study.day(), 1);
    }

    private static Study withoutRounds() {
        Study study = Studies.drawn(50);
        study.addInterviewer(50, 2, 600);
        return study;
    }

    private static void sizeOfNoRound() {
        Study study = withoutRounds();
        Expect.same("on the day 0", study.roundSize(0), 0);
        study.endDay();
        Expect.same("no house of the language", study.roundSize(0), 0);
        study.addInterviewer(50, 1, 600);
        Expect.same("added on this day", study.roundSize(1), 0);
        study.endDay();
        Expect.same("one house", study.roundSize(1), 1);
    }

    private static void minutesOfNoRound() {
        Study study = withoutRounds();
        Expect.same("on the day 0", study.roundMinutes(0), 0);
        study.endDay();
        Expect.same("no house of the language", study.roundMinutes(0), 0);
        study.addInterviewer(40, 1, 600);
        Expect.same("added on this day", study.roundMinutes(1), 0);
        study.endDay();
        Expect.same("one house", study.roundMinutes(1), 50);
        study.visit(0, 'a', 0);
        study.endDay();
        Expect.same("none again", study.roundMinutes(1), 0);
    }

    private static void sizeForNobody() {
        Study nobody = new Study();
        Refused.index(nobody, "nobody at all", () -> nobody.roundSize(0));
        Study study = dayOne(50, 600, 50);
        for (int number : new int[] {-1, 1, 4, MIN_VALUE, MAX_VALUE}) {
            Refused.index(study, "interviewer " + number, () -> study.roundSize(number));
        }
    }

    private static void placeForNobody() {
        Study nobody = new Study();
        Refused.index(nobody, "nobody at all", () -> nobody.roundAt(0, 0));
        Study study = dayOne(50, 600, 50);
        for (int number : new int[] {-1, 1, 4, MIN_VALUE, MAX_VALUE}) {
            Refused.index(study, "interviewer " + number, () -> study.roundAt(number, 0));
        }
    }

    private static void minutesForNobody() {
        Study nobody = new Study();
        Refused.index(nobody, "nobody at all", () -> nobody.roundMinutes(0));
        Study study = dayOne(50, 600, 50);
        for (int number : new int[] {-1, 1, 4, MIN_VALUE, MAX_VALUE}) {
            Refused.index(study, "interviewer " + number, () -> study.roundMinutes(number));
        }
    }

    private static void firstAndLastPlace() {
        Study study = dayOne(0, 600, new int[24]);
        Expect.same("first", study.roundAt(0, 0), 0);
        Expect.same("last", study.roundAt(0, 19), 19);
    }

    private static void noSuchPlace() {
        Study study = dayOne(0, 600, new int[24]);
        for (int index : new int[] {-1, 20, 23, 24, MIN_VALUE, MAX_VALUE}) {
            Refused.element(study, "place " + index, () -> study.roundAt(0, index));
        }
        Study empty = withoutRounds();
        Refused.element(empty, "on the day 0", () -> empty.roundAt(0, 0));
        empty.endDay();
        Refused.element(empty, "in an empty round", () -> empty.roundAt(0, 0));
        Study shorter = dayOne(0, 600, 0, 0);
        shorter.visit(1, 'a', 0);
        shorter.endDay();
        Refused.element(shorter, "a place of yesterday's round", () -> shorter.roundAt(0, 1));
    }
}
