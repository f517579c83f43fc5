/** Promises 1 to 3: a new object, marks and what they leave possible. */
final class ClocksTest {
    private ClocksTest() {
    }

    public static void main(String[] args) {
        newObject();
        oneMark();
        marksOverOthers();
        chainAtItsEnd();
        tighterAndLooser();
        refusedMarks();
        greatestSlack();
        markArguments();
        greatestArguments();
        Check.end("ClocksTest");
    }

    private static void newObject() {
        OutageBook book = new OutageBook();
        Check.due("1: lines", book.lines(), 0);
        Check.due("1: story", book.story(), 0);
        Check.due("1: orders", book.orders(), 1);
        Check.due("1: minutes", book.minutes(), 0);
        Check.dueThrow("1: roots", Check.INDEX, () -> book.roots(0));
        for (int clock = 0; clock < 5; clock++) {
            for (int other = 0; other < 5; other++) {
                int want = clock == other ? 0 : 1000000;
                Check.due("1: greatest " + clock + other, book.greatest(clock, other), want);
            }
        }
        for (int service = 0; service < 6; service++) {
            Check.due("1: impact " + service, book.impact(service), 0);
            Check.due("1: firstOf " + service, book.firstOf(service), -1);
        }
        book.write(0, 0, 0, true);
        Check.due("1: lines of another one", new OutageBook().lines(), 0);
    }

    private static void oneMark() {
        OutageBook book = new OutageBook();
        book.mark(1, 40, 2, 100, 7);
        Check.due("2: greatest(1, 2)", book.greatest(1, 2), 67);
        Check.due("2: greatest(2, 1)", book.greatest(2, 1), -53);
        Check.due("2: greatest(0, 1)", book.greatest(0, 1), OutageBook.UNBOUNDED);
        Check.due("2: greatest(2, 0)", book.greatest(2, 0), OutageBook.UNBOUNDED);
        Check.due("2: greatest(2, 2)", book.greatest(2, 2), 0);
    }

    private static OutageBook chain() {
        OutageBook book = new OutageBook();
        book.mark(0, 0, 1, 10, 1);
        book.mark(3, 0, 4, 40, 4);
        Check.due("3: greatest(0, 4)", book.greatest(0, 4), OutageBook.UNBOUNDED);
        book.mark(2, 0, 3, 30, 3);
        book.mark(2, 20, 1, 0, 2);
        return book;
    }

    private static void marksOverOthers() {
        OutageBook book = chain();
        Check.due("3: greatest(0, 2)", book.greatest(0, 2), 10 + 20 + 3);
        Check.due("3: greatest(0, 4)", book.greatest(0, 4), 10 + 20 + 30 + 40 + 10);
        Check.due("3: greatest(4, 0)", book.greatest(4, 0), -100 + 10);
        Check.due("3: greatest(3, 1)", book.greatest(3, 1), -50 + 5);
        book.mark(0, 0, 4, 95, 1);
        Check.due("3: greatest(0, 4) tightened", book.greatest(0, 4), 96);
        Check.due("3: greatest(4, 0) tightened", book.greatest(4, 0), -94);
        Check.due("3: greatest(0, 1) as before", book.greatest(0, 1), 11);
        Check.due("3: greatest(1, 0) as before", book.greatest(1, 0), -9);
        Check.due("3: greatest(3, 4) tightened", book.greatest(3, 4), 96 - 9 - 18 - 27);
        Check.due("3: greatest(3, 0) as before", book.greatest(3, 0), -54);
    }

    private static void chainAtItsEnd() {
        OutageBook book = chain();
        book.mark(0, 0, 4, 90, 0);
        Check.due("3: greatest(0, 1) at its end", book.greatest(0, 1), 9);
        Check.due("3: greatest(1, 2) at its end", book.greatest(1, 2), 18);
        Check.due("3: greatest(2, 3) at its end", book.greatest(2, 3), 27);
        Check.due("3: greatest(3, 4) at its end", book.greatest(3, 4), 36);
        Check.due("3: greatest(4, 3) at its end", book.greatest(4, 3), -36);
        Check.due("3: greatest(1, 4) at its end", book.greatest(1, 4), 81);
    }

    private static void tighterAndLooser() {
        OutageBook book = new OutageBook();
        book.mark(1, 5, 0, 5, 10);
        book.mark(1, 5, 0, 5, 1000);
        Check.due("2: a looser mark", book.greatest(1, 0), 10);
        book.mark(0, 5, 1, 13, 10);
        Check.due("2: only one side tighter", book.greatest(0, 1), 10);
        Check.due("2: the tighter side", book.greatest(1, 0), 2);
        book.mark(0, 9999, 1, 9999, 0);
        Check.due("2: no slack left", book.greatest(1, 0) + book.greatest(0, 1), 0);
    }

    private static void refusedMarks() {
        OutageBook book = new OutageBook();
        book.mark(0, 100, 1, 100, 5);
        Told.unchanged(book, "2: mark just too early", Check.STATE, () -> Books.mark(book, 0, 100, 1, 89, 5));
        Told.unchanged(book, "2: mark just too late", Check.STATE, () -> Books.mark(book, 0, 100, 1, 111, 5));
        Told.unchanged(book, "2: the same from the other", Check.STATE, () -> Books.mark(book, 1, 89, 0, 100, 5));
        book.mark(1, 90, 0, 100, 5);
        Check.due("2: a mark that leaves one value", book.greatest(0, 1), -5);
        Check.due("2: a mark that leaves one value", book.greatest(1, 0), 5);
        book.mark(1, 0, 2, 50, 0);
        book.mark(2, 0, 3, 50, 1);
        Told.unchanged(book, "2: mark that a chain refuses", Check.STATE, () -> Books.mark(book, 0, 0, 3, 93, 0));
        Told.unchanged(book, "2: mark that a chain refuses", Check.STATE, () -> Books.mark(book, 3, 97, 0, 0, 0));
        Check.due("2: mark at the chain's end", Check.answer(() -> Books.mark(book, 0, 0, 3, 94, 0)), "done");
        Check.due("2: then", book.greatest(2, 3), 49);
    }

    private static void greatestSlack() {
        OutageBook book = new OutageBook();
        book.mark(4, 10000, 3, 0, 1000);
        Check.due("2: the greatest slack", book.greatest(3, 4), 11000);
        Check.due("2: the greatest slack", book.greatest(4, 3), -9000);
        book.mark(3, 10000, 2, 0, 1000);
        book.mark(2, 10000, 1, 0, 1000);
        book.mark(1, 10000, 0, 0, 1000);
        Check.due("3: over all clocks", book.greatest(0, 4), 44000);
        Check.due("3: over all clocks", book.greatest(4, 0), -36000);
        Told.unchanged(book, "2: mark far off", Check.STATE, () -> Books.mark(book, 0, 0, 1, 0, 1000));
    }

    private static void markArguments() {
        OutageBook book = new OutageBook();
        book.mark(0, 0, 1, 0, 0);
        int[][] wrong = {
            {-1, 0, 1, 0, 0}, {5, 0, 1, 0, 0}, {0, 0, -1, 0, 0}, {0, 0, 5, 0, 0},
            {0, -1, 1, 0, 0}, {0, 10001, 1, 0, 0}, {0, 0, 1, -1, 0}, {0, 0, 1, 10001, 0},
            {0, 0, 1, 0, -1}, {0, 0, 1, 0, 1001}, {2, 5, 2, 5, 0}, {0, 0, 0, 0, 0},
            {Integer.MIN_VALUE, 0, 1, 0, 0}, {0, 0, Integer.MAX_VALUE, 0, 0},
            {0, Integer.MIN_VALUE, 1, 0, 0}, {0, 0, 1, Integer.MAX_VALUE, 0},
            {0, 0, 1, 0, Integer.MAX_VALUE}, {0, 50, 1, 0, -1}, {0, 50, 0, 0, 0},
        };
        for (int[] w : wrong) {
            Told.unchanged(book, "2: mark " + java.util.Arrays.toString(w), Check.ARGUMENT,
                    () -> Books.mark(book, w[0], w[1], w[2], w[3], w[4]));
        }
    }

    private static void greatestArguments() {
        OutageBook book = new OutageBook();
        int[] wrong = {-1, 5, Integer.MIN_VALUE, Integer.MAX_VALUE};
        for (int clock : wrong) {
            Told.unchanged(book, "3: greatest " + clock, Check.ARGUMENT, () -> book.greatest(clock, 0));
            Told.unchanged(book, "3: greatest " + clock, Check.ARGUMENT, () -> book.greatest(0, clock));
            Told.unchanged(book, "3: greatest " + clock, Check.ARGUMENT, () -> book.greatest(clock, clock));
        }
        Check.due("3: greatest(4, 4)", book.greatest(4, 4), 0);
    }
}
