/** Studies that several tests begin with. */
final class Studies {
    private Studies() {
    }

    /** One stratum with houses of the language 0 at these places, all of them drawn on the day 0. */
    static Study drawn(int... places) {
        Study book = undrawn(places);
        book.draw(0, places.length);
        return book;
    }

    static Study undrawn(int... places) {
        Study book = new Study();
        book.addStratum();
        for (int place : places) {
            book.addHouse(0, place, 0);
        }
        return book;
    }

    static void endDays(Study book, int days) {
        for (int k = 0; k < days; k++) {
            book.endDay();
        }
    }

    /**
     * Houses are rows of a stratum and a language, all of them drawn. It is the day 1, and two interviewers who speak
     * all languages have all houses in their rounds.
     */
    static Study dayOneOf(int[][] houses) {
        Study study = new Study();
        for (int stratum = 0; stratum < 4; stratum++) {
            study.addStratum();
        }
        int[] drawn = new int[4];
        for (int[] house : houses) {
            study.addHouse(house[0], 50, house[1]);
            drawn[house[0]]++;
        }
        for (int stratum = 0; stratum < 4; stratum++) {
            if (drawn[stratum] > 0) {
                study.draw(stratum, drawn[stratum]);
            }
        }
        study.addInterviewer(50, 7, 600);
        study.addInterviewer(50, 7, 600);
        study.endDay();
        return study;
    }
}
