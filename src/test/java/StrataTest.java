import java.util.NoSuchElementException;

/** Promises 1 to 6: a new object, setChance, addStratum, addHouse, addInterviewer, draw. */
public final class StrataTest {
    public static void main(String[] args) {
        newObject();
        setChance();
        addStratum();
        addHouse();
        addInterviewer();
        drawOneByOne();
        drawSkipsWhatIsDrawn();
        drawErrors();
        drawOnLaterDays();
        Expect.end();
    }

    private static void newObject() {
        Study book = new Study();
        Expect.same("1 day", book.day(), 0);
        Expect.same("1 chance", book.setChance(5), 1);
        Expect.fails("1 no stratum", IndexOutOfBoundsException.class, () -> book.target(0));
        Expect.fails("1 no house", IndexOutOfBoundsException.class, () -> book.stateOf(0));
        Expect.fails("1 no interviewer", IndexOutOfBoundsException.class, () -> book.faults(0));
        Expect.same("1 sum", book.weightedSum(), 0L);
        Expect.same("1 other objects stand apart", new Study().setChance(0), 1);
    }

    private static void setChance() {
        Study book = new Study();
        Expect.same("2 first", book.setChance(0), 1);
        Expect.same("2 lowest", book.setChance(65535), 0);
        Expect.same("2 highest", book.setChance(77), 65535);
        Expect.failsAlone(book, "2 below", IllegalArgumentException.class, () -> book.setChance(-1));
        Expect.failsAlone(book, "2 above", IllegalArgumentException.class, () -> book.setChance(65536));
        Expect.failsAlone(book, "2 least int", IllegalArgumentException.class,
                () -> book.setChance(Integer.MIN_VALUE));
        Expect.same("2 last", book.setChance(1), 77);
    }

    private static void addStratum() {
        Study book = new Study();
        for (int number = 0; number < 4; number++) {
            Expect.same("3 number", book.addStratum(), number);
            Expect.same("3 without houses", book.target(number), 0);
        }
        Expect.failsAlone(book, "3 a fifth", IllegalStateException.class, book::addStratum);
    }

    private static void addHouse() {
        Study book = new Study();
        Expect.failsAlone(book, "4 no stratum", IndexOutOfBoundsException.class, () -> book.addHouse(0, 100, 3));
        book.addStratum();
        Expect.failsAlone(book, "4 stratum first", IndexOutOfBoundsException.class, () -> book.addHouse(1, -1, -1));
        Expect.failsAlone(book, "4 stratum -1", IndexOutOfBoundsException.class, () -> book.addHouse(-1, 0, 0));
        Expect.failsAlone(book, "4 place -1", IllegalArgumentException.class, () -> book.addHouse(0, -1, 0));
        Expect.failsAlone(book, "4 place 100", IllegalArgumentException.class, () -> book.addHouse(0, 100, 0));
        Expect.failsAlone(book, "4 language -1", IllegalArgumentException.class, () -> book.addHouse(0, 0, -1));
        Expect.failsAlone(book, "4 language 3", IllegalArgumentException.class, () -> book.addHouse(0, 0, 3));
        for (int number = 0; number < 24; number++) {
            Expect.same("4 number", book.addHouse(0, number % 2 == 0 ? 0 : 99, number % 3), number);
            Expect.same("4 undrawn", book.stateOf(number), 'u');
            Expect.same("4 code", book.codeOf(number), 0);
        }
        Expect.same("4 no target yet", book.target(0), 0);
        Expect.failsAlone(book, "4 a 25th", IllegalStateException.class, () -> book.addHouse(0, 0, 0));
        Expect.failsAlone(book, "4 place before 25th", IllegalArgumentException.class, () -> book.addHouse(0, 100, 0));
        Expect.failsAlone(book, "4 stratum before 25th", IndexOutOfBoundsException.class,
                () -> book.addHouse(1, 0, 0));
    }

    private static void addInterviewer() {
        Study book = Studies.drawn(10);
        int[][] wrong = {{-1, 1, 60}, {100, 1, 60}, {0, 0, 60}, {0, 8, 60}, {0, -1, 60}, {0, 1, 29}, {0, 1, 601}};
        for (int[] row : wrong) {
            Expect.failsAlone(book, "5 out of range", IllegalArgumentException.class,
                    () -> book.addInterviewer(row[0], row[1], row[2]));
        }
        Expect.same("5 first", book.addInterviewer(0, 1, 30), 0);
        Expect.same("5 no faults", book.faults(0), 0);
        Expect.same("5 no round on the day 0", book.roundSize(0), 0);
        book.endDay();
        Expect.same("5 second", book.addInterviewer(99, 7, 600), 1);
        Expect.same("5 no round on this day", book.roundSize(1), 0);
        Expect.same("5 no minutes on this day", book.roundMinutes(1), 0);
        book.endDay();
        Expect.same("5 a round on the next day", book.roundSize(1), 1);
        book.addInterviewer(0, 7, 600);
        Expect.same("5 fourth", book.addInterviewer(0, 7, 600), 3);
        Expect.failsAlone(book, "5 a fifth", IllegalStateException.class, () -> book.addInterviewer(0, 7, 600));
        Expect.failsAlone(book, "5 range before a fifth", IllegalArgumentException.class,
                () -> book.addInterviewer(0, 8, 600));
    }

    /** The remainders of the chance numbers among 6, 5, 4, 3, 2 and 1 houses are 2, 3, 0, 2, 0 and 0. */
    private static void drawOneByOne() {
        Study book = Studies.undrawn(1, 2, 3, 4, 5, 6);
        int[] chances = {13448, 34353, 23896, 24161, 54312, 18577};
        int[] drawn = {2, 4, 0, 5, 1, 3};
        for (int k = 0; k < 6; k++) {
            Expect.same("6 drawn", book.draw(0, 1), drawn[k]);
            Expect.same("6 wanted", book.stateOf(drawn[k]), 'w');
            Expect.same("6 wanted from", book.wantedFrom(drawn[k]), 1);
            Expect.same("6 code", book.codeOf(drawn[k]), 300);
            int chance = book.setChance(0);
            Expect.same("6 chance", chance, chances[k]);
            book.setChance(chance);
        }
        Expect.same("6 target", book.target(0), 6000);
        Expect.same("6 the last of several", Studies.undrawn(1, 2, 3, 4, 5, 6).draw(0, 4), 5);
    }

    private static void drawSkipsWhatIsDrawn() {
        Study book = new Study();
        book.addStratum();
        book.addStratum();
        for (int number = 0; number < 8; number++) {
            book.addHouse(number % 2, 0, 0);
        }
        book.setChance(2);
        // The chance numbers 14551, 5778 and 28487 leave 3 among 4, 0 among 3 and 1 among 2 houses.
        Expect.same("6 rows are of a stratum", book.draw(1, 1), 7);
        Expect.same("6 without those drawn", book.draw(1, 1), 1);
        Expect.same("6 nor those drawn before", book.draw(1, 1), 5);
        Expect.same("6 the other stratum is untouched", book.target(0), 0);
        Expect.same("6 its houses too", book.stateOf(0), 'u');
        book.setChance(65535);
        // 65535 * 1103 + 12345 leaves 11242, and 11242 leaves 2 among 4.
        Expect.same("6 highest chance number", book.draw(0, 1), 4);
        Expect.same("6 chance number behind it", book.setChance(0), 11242);
    }

    private static void drawErrors() {
        Study book = Studies.undrawn(1, 2, 3);
        Expect.failsAlone(book, "6 no stratum", IndexOutOfBoundsException.class, () -> book.draw(1, 0));
        Expect.failsAlone(book, "6 stratum -1", IndexOutOfBoundsException.class, () -> book.draw(-1, 1));
        Expect.failsAlone(book, "6 none", IllegalArgumentException.class, () -> book.draw(0, 0));
        Expect.failsAlone(book, "6 25", IllegalArgumentException.class, () -> book.draw(0, 25));
        Expect.failsAlone(book, "6 too many", IllegalStateException.class, () -> book.draw(0, 4));
        Expect.failsAlone(book, "6 24 of 3", IllegalStateException.class, () -> book.draw(0, 24));
        book.draw(0, 2);
        Expect.failsAlone(book, "6 too many of the rest", IllegalStateException.class, () -> book.draw(0, 2));
        book.draw(0, 1);
        Expect.failsAlone(book, "6 none is left", IllegalStateException.class, () -> book.draw(0, 1));
        Expect.fails("6 no round on this day", NoSuchElementException.class, () -> {
            book.addInterviewer(0, 7, 600);
            return book.roundAt(0, 0);
        });
    }

    private static void drawOnLaterDays() {
        Study book = Studies.undrawn(5);
        book.addInterviewer(5, 1, 30);
        Studies.endDays(book, 4);
        book.draw(0, 1);
        Expect.same("6 wanted from the next day on", book.wantedFrom(0), 5);
        Expect.same("6 not in a round of this day", book.roundSize(0), 0);
        book.endDay();
        Expect.same("6 in a round of the next day", book.roundSize(0), 1);
    }
}
