/** All that can be asked of a study, as one text. */
final class Picture {
    private Picture() {
    }

    static String of(Fieldbook book) {
        StringBuilder text = new StringBuilder();
        int chance = book.setChance(0);
        book.setChance(chance);
        text.append("chance ").append(chance).append(" day ").append(book.day());
        for (int stratum = -1; stratum <= 4; stratum++) {
            int asked = stratum;
            put(text, "target " + asked, () -> book.target(asked));
        }
        for (int interviewer = -1; interviewer <= 4; interviewer++) {
            putInterviewer(text, book, interviewer);
        }
        for (int house = -1; house <= 24; house++) {
            putHouse(text, book, house);
        }
        for (int language = -1; language <= 3; language++) {
            int asked = language;
            put(text, "weightOfLanguage " + asked, () -> book.weightOfLanguage(asked));
        }
        put(text, "weightedSum", book::weightedSum);
        put(text, "weightedMean", book::weightedMean);
        put(text, "rate", book::rate);
        put(text, "isSound", book::isSound);
        return text.toString();
    }

    private static void putInterviewer(StringBuilder text, Fieldbook book, int asked) {
        put(text, "interviewer " + asked + " roundSize", () -> book.roundSize(asked));
        put(text, "roundMinutes", () -> book.roundMinutes(asked));
        put(text, "faults", () -> book.faults(asked));
        put(text, "answersTo", () -> book.answersTo(asked));
        for (int index = -1; index <= 24; index++) {
            int place = index;
            put(text, "at " + place, () -> book.roundAt(asked, place));
        }
    }

    private static void putHouse(StringBuilder text, Fieldbook book, int asked) {
        put(text, "house " + asked + " stateOf", () -> book.stateOf(asked));
        put(text, "wantedFrom", () -> book.wantedFrom(asked));
        put(text, "codeOf", () -> book.codeOf(asked));
        put(text, "answerOf", () -> book.answerOf(asked));
        put(text, "weight", () -> book.weight(asked));
        put(text, "weightAnew", () -> book.weightAnew(asked));
    }

    private static void put(StringBuilder text, String what, Expect.Call call) {
        text.append('\n').append(what).append(' ').append(Expect.outcomeOf(call));
    }
}
