/** The edges of what lines add up to: orders, doubts, the story, earliest times, first lines. */
final class LineAnswerEdges {
    private LineAnswerEdges() {
    }

    static void test() {
        ordersUpToTwelve();
        ordersOfChains();
        ordersOfMoreThanTwelve();
        weightsAtTheirEnds();
        equalWeights();
        doubtfulLinesStay();
        noLineOfTheStory();
        storyOfThoseTold();
        placesOfTheStory();
        notBounded();
        earliestOfBounded();
        firstOfServices();
    }

    private static void counted() {
        Document.about("8", "Returns the number of orders of all lines in which no line stands behind another"
                + " one before which it must come.");
    }

    private static void ordersUpToTwelve() {
        counted();
        OutageBook free = new OutageBook();
        OutageBook chain = new OutageBook();
        long all = 1;
        Check.due("no line at all", free.orders(), 1);
        for (int lines = 1; lines <= 12; lines++) {
            all *= lines;
            free.write(3, 7, 0, true);
            chain.write(3, 100 - lines, 0, true);
            Check.due(lines + " at once", free.orders(), all);
            Check.due(lines + " in a chain", chain.orders(), 1);
        }
    }

    /** Lines of clocks that are not bound may be mixed in any way. */
    private static void ordersOfChains() {
        counted();
        OutageBook book = new OutageBook();
        for (int line = 0; line < 12; line++) {
            book.write(line % 5, line, 0, false);
        }
        Check.due("chains of 3, 3, 2, 2 and 2", book.orders(), 479001600L / (6 * 6 * 2 * 2 * 2));
        book.argue(11, 100, false);
        Check.due("one of them doubtful", book.orders(), 479001600L / (6 * 6 * 2 * 2 * 2));
        OutageBook pair = new OutageBook();
        pair.write(0, 5, 0, true);
        pair.write(1, 5, 0, true);
        Check.due("two that are not bound", pair.orders(), 2);
        pair.mark(0, 5, 1, 5, 1);
        Check.due("two that could be at once", pair.orders(), 2);
        pair.mark(0, 5, 1, 4, 0);
        Check.due("two of which one must be first", pair.orders(), 1);
        pair.write(0, 4, 0, true);
        Check.due("a third one before both", pair.orders(), 1);
        pair.write(1, 5, 0, true);
        Check.due("with one at once with the second", pair.orders(), 2);
    }

    private static void ordersOfMoreThanTwelve() {
        Document.about("8", "Throws `IllegalStateException` if there are more than 12 lines");
        OutageBook book = Books.withReadings(0, 12, 11, 10, 9, 8, 7, 6, 5, 4, 3, 2, 1);
        Check.due("12 lines", book.orders(), 1);
        for (int lines = 13; lines <= 30; lines++) {
            book.write(0, 0, 0, false);
            Told.unchanged(book, lines + " lines", Check.STATE, book::orders);
        }
    }

    private static void weightsAtTheirEnds() {
        Document.about("9", "Argues for a line, or against it.");
        OutageBook book = Books.withReadings(0, 5, 5);
        Check.due("1 for", book.argue(0, 1, true), 1);
        Check.due("100 for", book.argue(0, 100, true), 101);
        Check.due("1 against another one", book.argue(1, 1, false), -1);
        Check.due("100 against another one", book.argue(1, 100, false), -101);
        Document.about("9", "`isFor`: whether it is for the line");
        Check.due("for", Books.withReadings(0, 5).argue(0, 3, true), 3);
        Check.due("against", Books.withReadings(0, 5).argue(0, 3, false), -3);
        Document.about("9", "Returns the weight for it less the weight against it.");
        Check.due("none left", book.argue(0, 100, false), 1);
        Check.due("none left", book.argue(0, 1, false), 0);
        Check.due("below", book.argue(0, 1, false), -1);
        Document.about("9", "Throws `IllegalArgumentException` if weight is out of range");
        for (int weight : new int[] {0, 101, -1, -100, Integer.MIN_VALUE, Integer.MAX_VALUE}) {
            Told.unchanged(book, "the weight " + weight, Check.ARGUMENT, () -> book.argue(0, weight, true));
            Told.unchanged(book, "the weight " + weight, Check.ARGUMENT, () -> book.argue(0, weight, false));
        }
        Check.due("as it was", book.argue(0, 1, true), 0);
    }

    private static void equalWeights() {
        Document.about("Lines", "A line has a weight for it and a weight against it, both 0 at first; it is"
                + " doubtful, if the weight against it is more.");
        for (int weight = 1; weight <= 100; weight++) {
            OutageBook book = Books.withReadings(0, 5);
            Check.due("both 0", book.isDoubtful(0), false);
            book.argue(0, weight, false);
            Check.due("only against", book.isDoubtful(0), true);
            Check.due("as much for", book.argue(0, weight, true), 0);
            Check.due("equal", book.isDoubtful(0), false);
            book.argue(0, 1, false);
            Check.due("one more against", book.isDoubtful(0), true);
            book.argue(0, 1, true);
            Check.due("equal again", book.isDoubtful(0), false);
            Check.due("told again", book.story(), 1);
        }
        Document.about("10", "Tells whether a line is doubtful.");
        OutageBook book = Books.withReadings(0, 5, 5, 5);
        book.argue(1, 1, false);
        book.argue(2, 1, true);
        Check.due("not argued", book.isDoubtful(0), false);
        Check.due("argued against", book.isDoubtful(1), true);
        Check.due("argued for", book.isDoubtful(2), false);
    }

    private static void doubtfulLinesStay() {
        Document.about("Lines", "Doubtful lines stay in the order.");
        OutageBook book = Books.withReadings(1, 30, 20, 10);
        for (int line = 0; line < 3; line++) {
            book.argue(line, 100, false);
            Check.due("the order", Books.order(book), "2 1 0");
            Check.due("what must come before", book.mustComeBefore(2, line), line != 2);
        }
        Check.due("lines", book.lines(), 3);
        Check.due("orders", book.orders(), 1);
        Check.due("firstOf", book.firstOf(0), 2);
        book.write(1, 15, 0, true);
        Check.due("a line after them", Books.order(book), "2 3 1 0");
    }

    private static void noLineOfTheStory() {
        Document.about("11", "Returns the number of lines of the story.");
        Check.due("no line", new OutageBook().story(), 0);
        OutageBook book = new OutageBook();
        book.write(0, 5, 0, false);
        book.write(0, 6, 0, false);
        Check.due("none is told", book.story(), 0);
        book.argue(0, 100, true);
        Check.due("what is argued for is not told", book.story(), 0);
        book.write(0, 7, 0, true);
        Check.due("one is told", book.story(), 1);
        book.argue(2, 1, false);
        Check.due("it is doubtful", book.story(), 0);
        Document.about("12", "Throws `IndexOutOfBoundsException` if there is no such place");
        Check.dueThrow("no line", Check.INDEX, () -> new OutageBook().storyAt(0));
        Told.unchanged(book, "no line of the story", Check.INDEX, () -> book.storyAt(0));
        Told.unchanged(book, "no line of the story", Check.INDEX, () -> book.storyAt(2));
        Told.unchanged(book, "no line of the story", Check.INDEX, () -> book.storyAt(-1));
    }

    /** Each line is told or not, and doubtful or not: all ways of four lines. */
    private static void storyOfThoseTold() {
        Document.about("Lines", "The story are the lines that are told to outsiders and not doubtful, in the"
                + " order that is told.");
        for (int way = 0; way < 256; way++) {
            OutageBook book = new OutageBook();
            StringBuilder want = new StringBuilder();
            int size = 0;
            for (int line = 0; line < 4; line++) {
                boolean isPublic = (way >> line & 1) == 1;
                boolean isDoubtful = (way >> line + 4 & 1) == 1;
                book.write(0, 90 - line, 0, isPublic);
                book.argue(line, 5, !isDoubtful);
                if (isPublic && !isDoubtful) {
                    want.insert(0, line + " ");
                    size++;
                }
            }
            int behind = size;
            Check.due("the size of " + way, book.story(), size);
            Check.due("the story of " + way, Books.storyOf(book), want.toString().trim());
            Check.dueThrow("behind the last one of " + way, Check.INDEX, () -> book.storyAt(behind));
        }
    }

    private static void placesOfTheStory() {
        Document.about("12", "Returns a line of the story.");
        OutageBook book = new OutageBook();
        for (int line = 0; line < 30; line++) {
            book.write(0, 10000 - line, 5, true);
        }
        Check.due("all of them", book.story(), 30);
        Check.due("the last place", book.storyAt(29), 0);
        Document.about("12", "`place`: 0 for the first one");
        Check.due("the first place", book.storyAt(0), 29);
        book.argue(29, 1, false);
        Check.due("the first place without it", book.storyAt(0), 28);
        Check.due("the last place without it", book.storyAt(28), 0);
        Document.about("12", "Throws `IndexOutOfBoundsException` if there is no such place");
        for (int place : new int[] {-1, 29, 30, Integer.MIN_VALUE, Integer.MAX_VALUE}) {
            Told.unchanged(book, "the place " + place, Check.INDEX, () -> book.storyAt(place));
        }
    }

    private static void earliestIs() {
        Document.about("13", "Returns the earliest possible true time of a line; -1000000 if it is not bounded.");
    }

    private static void notBounded() {
        earliestIs();
        OutageBook book = new OutageBook();
        for (int clock = 1; clock < 5; clock++) {
            int first = book.write(clock, 0, 0, true);
            int last = book.write(clock, 10000, 0, true);
            Check.due("the reading 0", book.earliest(first), -1000000);
            Check.due("the reading 10000", book.earliest(last), -1000000);
        }
        book.mark(1, 0, 2, 7000, 0);
        book.mark(3, 7000, 4, 0, 0);
        book.mark(4, 0, 2, 0, 0);
        for (int line = 0; line < 8; line++) {
            Check.due("bound, but not to the clock 0", book.earliest(line), -1000000);
        }
        book.mark(3, 0, 0, 0, 1000);
        int[] offsets = {14000, 14000, 7000, 7000, 0, 0, 7000, 7000};
        for (int line = 0; line < 8; line++) {
            Check.due("bound over others", book.earliest(line), line % 2 * 10000 + offsets[line] - 1000);
        }
    }

    private static void earliestOfBounded() {
        earliestIs();
        OutageBook book = new OutageBook();
        book.write(1, 0, 0, true);
        book.write(1, 10000, 0, true);
        book.write(0, 0, 0, true);
        book.write(0, 10000, 0, true);
        book.mark(0, 3000, 1, 1000, 0);
        Check.due("slack 0", book.earliest(0), 2000);
        Check.due("slack 0", book.earliest(1), 12000);
        Check.due("the clock 0", book.earliest(2), 0);
        Check.due("the clock 0", book.earliest(3), 10000);
        OutageBook late = new OutageBook();
        late.write(1, 10000, 0, true);
        late.mark(1, 0, 0, 10000, 1000);
        Check.due("the latest one", late.earliest(0), 19000);
        late.mark(1, 0, 0, 10000, 999);
        Check.due("a tighter mark", late.earliest(0), 19001);
        late.mark(1, 0, 0, 9000, 1000);
        Check.due("a mark that binds the later end alone", late.earliest(0), 19001);
        late.mark(1, 0, 0, 10000, 0);
        Check.due("one value is left", late.earliest(0), 20000);
    }

    private static void firstOfServices() {
        Document.about("14", "Returns the first line of a service in the order that is told; NONE if there is"
                + " none.");
        OutageBook book = new OutageBook();
        for (int service = 0; service < 6; service++) {
            Check.due("no line", book.firstOf(service), OutageBook.NONE);
        }
        book.write(0, 20, 0, true);
        book.write(0, 20, 5, false);
        book.write(0, 20, 5, true);
        book.write(0, 20, 0, true);
        Check.due("the service 0", book.firstOf(0), 0);
        Check.due("the service 5, of equal ones the lowest", book.firstOf(5), 1);
        for (int service = 1; service < 5; service++) {
            Check.due("a service without a line", book.firstOf(service), OutageBook.NONE);
        }
        book.write(0, 19, 5, false);
        book.write(0, 19, 0, true);
        book.argue(5, 1, false);
        Check.due("the service 5, earlier, not public", book.firstOf(5), 4);
        Check.due("the service 0, earlier, doubtful", book.firstOf(0), 5);
        Document.about("14", "Throws `IllegalArgumentException` if service is out of range");
        for (int service : new int[] {-1, 6, Integer.MIN_VALUE, Integer.MAX_VALUE}) {
            Told.unchanged(book, "the service " + service, Check.ARGUMENT, () -> book.firstOf(service));
        }
    }
}
