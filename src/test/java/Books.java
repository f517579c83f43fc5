/** Books that are empty, begun and full, made by the same calls each time. */
final class Books {
    private Books() {
    }

    interface Made {
        OutageBook make();
    }

    static final Made EMPTY = OutageBook::new;
    static final Made BEGUN = Books::begun;
    static final Made FULL = Books::full;
    static final Made[] ALL = {EMPTY, BEGUN, FULL};

    private static OutageBook begun() {
        OutageBook book = new OutageBook();
        book.mark(0, 100, 1, 60, 10);
        book.mark(3, 100, 4, 200, 0);
        book.write(0, 500, 2, true);
        book.write(1, 400, 3, true);
        book.write(1, 300, 2, false);
        book.write(3, 350, 0, true);
        book.argue(1, 30, false);
        book.argue(2, 20, true);
        book.measure(2, 100, 200, 50);
        book.measure(2, 150, 250, 70);
        book.measure(3, 240, 260, 1);
        for (int cause = 0; cause < 4; cause++) {
            book.addCause();
        }
        book.argueReason(0, 1, 40);
        book.argueReason(1, 2, 50);
        book.argueReason(0, 3, 40);
        book.setStanding(3, false);
        return book;
    }

    private static OutageBook full() {
        OutageBook book = begun();
        for (int line = 4; line < 30; line++) {
            book.write(line % 5, 9000 - 37 * line, line % 6, line % 3 > 0);
            book.argue(line, line, line % 4 > 0);
        }
        for (int measure = 3; measure < 40; measure++) {
            book.measure(measure % 5, 90 * measure, 90 * measure + 100, 2 * measure);
        }
        for (int cause = 4; cause < 16; cause++) {
            book.addCause();
            book.argueReason(cause - 4, cause, 3 * cause);
            book.setStanding(cause, cause % 5 > 0);
        }
        return book;
    }

    static OutageBook withReadings(int clock, int... readings) {
        OutageBook book = new OutageBook();
        for (int reading : readings) {
            book.write(clock, reading, 0, true);
        }
        return book;
    }

    static OutageBook withCauses(int count) {
        OutageBook book = new OutageBook();
        for (int cause = 0; cause < count; cause++) {
            book.addCause();
        }
        return book;
    }

    static String order(OutageBook book) {
        StringBuilder order = new StringBuilder();
        for (int place = 0; place < book.lines(); place++) {
            order.append(book.lineAt(place)).append(' ');
        }
        return order.toString().trim();
    }

    static String storyOf(OutageBook book) {
        StringBuilder story = new StringBuilder();
        for (int place = 0; place < book.story(); place++) {
            story.append(book.storyAt(place)).append(' ');
        }
        return story.toString().trim();
    }

    /** A mark, with an answer as the other calls have one. */
    static String mark(OutageBook book, int first, int firstReading, int second,
            int secondReading, int slack) {
        book.mark(first, firstReading, second, secondReading, slack);
        return "done";
    }
}
