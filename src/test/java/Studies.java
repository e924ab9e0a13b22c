/** Studies that several tests begin with. */
final class Studies {
    private Studies() {
    }

    /** One stratum with houses of the language 0 at these places, all of them drawn on the day 0. */
    static Fieldbook drawn(int... places) {
        Fieldbook book = undrawn(places);
        book.draw(0, places.length);
        return book;
    }

    static Fieldbook undrawn(int... places) {
        Fieldbook book = new Fieldbook();
        book.addStratum();
        for (int place : places) {
            book.addHouse(0, place, 0);
        }
        return book;
    }

    static void endDays(Fieldbook book, int days) {
        for (int k = 0; k < days; k++) {
            book.endDay();
        }
    }
}
