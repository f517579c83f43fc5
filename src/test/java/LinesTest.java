/** Promises 4 to 14: lines, their order, doubts and the story. */
final class LinesTest {
    private LinesTest() {
    }

    public static void main(String[] args) {
        writeAndLines();
        writeArguments();
        thirtyLines();
        beforeOnOneClock();
        beforeOverClocks();
        beforeArguments();
        orderThatIsTold();
        orderAfterMarks();
        placeArguments();
        ordersCounted();
        ordersRefused();
        argued();
        argueArguments();
        storyTold();
        storyArguments();
        earliestTimes();
        firstOfServices();
        Check.end("LinesTest");
    }

    private static void writeAndLines() {
        OutageBook book = new OutageBook();
        Check.due("4: the first line", book.write(4, 10000, 5, false), 0);
        Check.due("5: lines", book.lines(), 1);
        Check.due("4: the second line", book.write(0, 0, 0, true), 1);
        Check.due("5: lines", book.lines(), 2);
    }

    private static void writeArguments() {
        OutageBook book = Books.withReadings(0, 5);
        int[][] wrong = {
            {-1, 0, 0}, {5, 0, 0}, {0, -1, 0}, {0, 10001, 0}, {0, 0, -1}, {0, 0, 6},
            {Integer.MIN_VALUE, 0, 0}, {0, Integer.MAX_VALUE, 0}, {0, 0, Integer.MIN_VALUE},
        };
        for (int[] w : wrong) {
            Told.unchanged(book, "4: write " + java.util.Arrays.toString(w), Check.ARGUMENT,
                    () -> book.write(w[0], w[1], w[2], true));
        }
    }

    private static void thirtyLines() {
        OutageBook book = new OutageBook();
        for (int line = 0; line < 30; line++) {
            Check.due("4: line " + line, book.write(0, 10000 - line, line % 6, true), line);
        }
        Told.unchanged(book, "4: one too many", Check.STATE, () -> book.write(0, 0, 0, true));
        Told.unchanged(book, "4: one too many, wrong", Check.ARGUMENT, () -> book.write(5, 0, 0, true));
        Check.due("5: lines", book.lines(), 30);
        for (int place = 0; place < 30; place++) {
            Check.due("7: lineAt " + place, book.lineAt(place), 29 - place);
        }
        Check.due("6: the last before the first", book.mustComeBefore(29, 0), true);
        Check.due("6: the first before the last", book.mustComeBefore(0, 29), false);
        Check.due("11: story", book.story(), 30);
        Check.due("14: firstOf(0)", book.firstOf(0), 24);
        Check.due("14: firstOf(5)", book.firstOf(5), 29);
    }

    private static void beforeOnOneClock() {
        OutageBook book = Books.withReadings(3, 10, 11, 10);
        Check.due("6: earlier", book.mustComeBefore(0, 1), true);
        Check.due("6: later", book.mustComeBefore(1, 0), false);
        Check.due("6: at once", book.mustComeBefore(0, 2), false);
        Check.due("6: at once", book.mustComeBefore(2, 0), false);
        Check.due("6: itself", book.mustComeBefore(1, 1), false);
        Check.due("6: with a higher number", book.mustComeBefore(2, 1), true);
    }

    private static void beforeOverClocks() {
        OutageBook book = new OutageBook();
        book.write(1, 100, 0, true);
        book.write(2, 105, 0, true);
        book.write(2, 106, 0, true);
        book.write(2, 10000, 0, true);
        Check.due("6: not bound", book.mustComeBefore(0, 3), false);
        book.mark(1, 0, 2, 0, 5);
        Check.due("6: bound, but may be at once", book.mustComeBefore(0, 1), false);
        Check.due("6: bound", book.mustComeBefore(0, 2), true);
        Check.due("6: bound, the other way", book.mustComeBefore(2, 0), false);
        book.write(2, 95, 0, true);
        book.write(2, 94, 0, true);
        Check.due("6: from the other clock, may be at once", book.mustComeBefore(4, 0), false);
        Check.due("6: from the other clock", book.mustComeBefore(5, 0), true);
        book.write(0, 0, 0, true);
        Check.due("6: a third clock", book.mustComeBefore(6, 3), false);
        book.mark(0, 0, 1, 10, 0);
        Check.due("6: a third clock over the other", book.mustComeBefore(6, 3), true);
    }

    private static void beforeArguments() {
        OutageBook book = Books.withReadings(0, 1, 2);
        int[] wrong = {-1, 2, 29, 30, 31, 32, Integer.MIN_VALUE, Integer.MAX_VALUE};
        for (int line : wrong) {
            Told.unchanged(book, "6: no line", Check.INDEX, () -> book.mustComeBefore(line, 0));
            Told.unchanged(book, "6: no other", Check.INDEX, () -> book.mustComeBefore(0, line));
            Told.unchanged(book, "6: neither", Check.INDEX, () -> book.mustComeBefore(line, line));
        }
    }

    private static void orderThatIsTold() {
        Check.due("7: on one clock", Books.order(Books.withReadings(2, 30, 10, 20, 10, 30)), "1 3 2 0 4");
        OutageBook book = new OutageBook();
        book.write(0, 50, 0, true);
        book.write(1, 20, 0, true);
        book.write(0, 40, 0, true);
        book.write(1, 10, 0, true);
        book.write(2, 0, 0, true);
        // Not the earliest line is taken next, but the lowest number that nothing holds back.
        Check.due("7: on clocks not bound", Books.order(book), "2 0 3 1 4");
    }

    private static void orderAfterMarks() {
        OutageBook book = new OutageBook();
        book.write(0, 100, 0, true);
        book.write(1, 100, 0, true);
        book.write(2, 100, 0, true);
        Check.due("7: without marks", Books.order(book), "0 1 2");
        book.mark(1, 50, 2, 70, 10);
        Check.due("7: what the clock 2 read is earlier than by the clock 1", Books.order(book), "0 2 1");
        book.mark(0, 0, 2, 10, 5);
        Check.due("7: and than by the clock 0", Books.order(book), "2 0 1");
        book.write(2, 100, 0, false);
        Check.due("7: one more", Books.order(book), "2 3 0 1");
        Told.unchanged(book, "7: a mark that is refused", Check.STATE, () -> {
            book.mark(0, 10000, 1, 0, 0);
            return "";
        });
    }

    private static void placeArguments() {
        Told.unchanged(new OutageBook(), "7: no lines", Check.INDEX, () -> new OutageBook().lineAt(0));
        OutageBook book = Books.withReadings(0, 1, 2);
        for (int place : new int[] {-1, 2, 30, Integer.MIN_VALUE, Integer.MAX_VALUE}) {
            Told.unchanged(book, "7: lineAt " + place, Check.INDEX, () -> book.lineAt(place));
        }
    }

    private static void ordersCounted() {
        Check.due("8: no lines", new OutageBook().orders(), 1);
        Check.due("8: one line", Books.withReadings(0, 7).orders(), 1);
        Check.due("8: one after the other", Books.withReadings(0, 4, 3, 2, 1).orders(), 1);
        Check.due("8: all at once", Books.withReadings(0, 1, 1, 1, 1).orders(), 24);
        Check.due("8: two and two", Books.withReadings(0, 1, 2, 2, 1).orders(), 4);
        OutageBook twelve = Books.withReadings(0, new int[12]);
        Check.due("8: twelve at once", twelve.orders(), 479001600L);
        Check.due("8: twelve at once, asked again", twelve.orders(), 479001600L);
        OutageBook book = Books.withReadings(0, 1, 2, 3, 4, 5, 6);
        for (int reading = 1; reading <= 6; reading++) {
            book.write(1, reading, 0, true);
        }
        Check.due("8: two chains of six", book.orders(), 924);
        book.mark(0, 0, 1, 0, 0);
        Check.due("8: six pairs", book.orders(), 64);
        book.argue(3, 1, false);
        Check.due("8: doubtful ones count", book.orders(), 64);
    }

    private static void ordersRefused() {
        OutageBook book = Books.withReadings(0, new int[12]);
        book.write(0, 1, 0, true);
        Told.unchanged(book, "8: thirteen lines", Check.STATE, book::orders);
    }

    private static void argued() {
        OutageBook book = Books.withReadings(0, 2, 1);
        Check.due("10: at first", book.isDoubtful(0), false);
        Check.due("9: for", book.argue(0, 100, true), 100);
        Check.due("9: against", book.argue(0, 99, false), 1);
        Check.due("10: less against", book.isDoubtful(0), false);
        Check.due("9: against", book.argue(0, 1, false), 0);
        Check.due("10: as much against", book.isDoubtful(0), false);
        Check.due("9: against", book.argue(0, 1, false), -1);
        Check.due("10: more against", book.isDoubtful(0), true);
        Check.due("10: the other line", book.isDoubtful(1), false);
        Check.due("9: the other line", book.argue(1, 100, false), -100);
        Check.due("9: the other line", book.argue(1, 100, false), -200);
        Check.due("7: doubtful ones stay", Books.order(book), "1 0");
        Check.due("10: a new line", book.isDoubtful(book.write(0, 0, 0, true)), false);
    }

    private static void argueArguments() {
        OutageBook book = Books.withReadings(0, 1);
        for (int line : new int[] {-1, 1, 30, Integer.MIN_VALUE, Integer.MAX_VALUE}) {
            Told.unchanged(book, "9: no line", Check.INDEX, () -> book.argue(line, 1, true));
            Told.unchanged(book, "9: no line, no weight", Check.INDEX, () -> book.argue(line, 0, true));
            Told.unchanged(book, "10: no line", Check.INDEX, () -> book.isDoubtful(line));
        }
        for (int weight : new int[] {0, 101, -1, Integer.MIN_VALUE, Integer.MAX_VALUE}) {
            Told.unchanged(book, "9: weight for", Check.ARGUMENT, () -> book.argue(0, weight, true));
            Told.unchanged(book, "9: weight against", Check.ARGUMENT, () -> book.argue(0, weight, false));
        }
        Check.due("9: nothing was argued", book.argue(0, 1, true), 1);
    }

    private static void storyTold() {
        OutageBook book = new OutageBook();
        book.write(0, 40, 0, true);
        book.write(0, 30, 0, false);
        book.write(0, 20, 0, true);
        book.write(0, 10, 0, true);
        Check.due("11: story", book.story(), 3);
        Check.due("12: story", Books.storyOf(book), "3 2 0");
        book.argue(2, 1, false);
        Check.due("11: without a doubtful line", book.story(), 2);
        Check.due("12: without a doubtful line", Books.storyOf(book), "3 0");
        book.argue(2, 1, true);
        book.argue(1, 100, true);
        Check.due("12: no longer doubtful", Books.storyOf(book), "3 2 0");
        book.argue(3, 1, false);
        book.argue(0, 1, false);
        book.argue(2, 1, false);
        Check.due("11: nothing is left", book.story(), 0);
        Check.due("5: but the lines", book.lines(), 4);
    }

    private static void storyArguments() {
        Told.unchanged(new OutageBook(), "12: no lines", Check.INDEX, () -> new OutageBook().storyAt(0));
        OutageBook book = Books.withReadings(0, 1, 2, 3);
        book.argue(1, 5, false);
        for (int place : new int[] {-1, 2, 3, 30, Integer.MIN_VALUE, Integer.MAX_VALUE}) {
            Told.unchanged(book, "12: storyAt " + place, Check.INDEX, () -> book.storyAt(place));
        }
    }

    private static void earliestTimes() {
        OutageBook book = new OutageBook();
        book.write(0, 0, 0, true);
        book.write(0, 10000, 0, true);
        book.write(1, 5, 0, true);
        book.write(2, 700, 0, true);
        Check.due("13: the clock 0", book.earliest(0), 0);
        Check.due("13: the clock 0", book.earliest(1), 10000);
        Check.due("13: not bounded", book.earliest(2), -1000000);
        book.mark(1, 100, 2, 200, 10);
        Check.due("13: bound to another one only", book.earliest(3), -1000000);
        book.mark(0, 100, 1, 300, 20);
        Check.due("13: bound", book.earliest(2), 5 - 200 - 20);
        Check.due("13: bound over another one", book.earliest(3), 700 - 300 - 30);
        Check.due("13: the clock 0 as before", book.earliest(1), 10000);
        for (int line : new int[] {-1, 4, 30, Integer.MIN_VALUE, Integer.MAX_VALUE}) {
            Told.unchanged(book, "13: no line", Check.INDEX, () -> book.earliest(line));
        }
    }

    private static void firstOfServices() {
        OutageBook book = new OutageBook();
        book.write(0, 40, 5, false);
        book.write(0, 30, 0, true);
        book.write(0, 20, 5, true);
        Check.due("14: firstOf(5)", book.firstOf(5), 2);
        Check.due("14: firstOf(0)", book.firstOf(0), 1);
        Check.due("14: firstOf(1)", book.firstOf(1), OutageBook.NONE);
        book.argue(2, 9, false);
        Check.due("14: a doubtful line", book.firstOf(5), 2);
        book.write(0, 10, 5, false);
        Check.due("14: a line that is not public", book.firstOf(5), 3);
        for (int service : new int[] {-1, 6, Integer.MIN_VALUE, Integer.MAX_VALUE}) {
            Told.unchanged(book, "14: no service", Check.ARGUMENT, () -> book.firstOf(service));
        }
    }
}
