/** The edges of lines, their order, doubts and the story: promises 4 to 14. */
final class LineEdges {
    private LineEdges() {
    }

    static void test() {
        noLine();
        thirtyLines();
        numberBehindTheLastOne();
        fieldsAtTheirEnds();
        readingsAtTheirEnds();
        equalTrueTimes();
        trueTimesThatCouldBeEqual();
        lineAndItself();
        clocksNotBound();
        farTrueTimes();
        lowestNumber();
        heldBack();
        oneLine();
        placesOfTheOrder();
        LineAnswerEdges.test();
    }

    private static void noLine() {
        Document.about("5", "Returns the number of lines.");
        OutageBook book = new OutageBook();
        Check.due("no line", book.lines(), 0);
        book.mark(0, 0, 1, 0, 0);
        book.measure(0, 0, 0, 100);
        book.addCause();
        Check.due("still no line", book.lines(), 0);
        Document.about("7", "Throws `IndexOutOfBoundsException` if there is no such place");
        Check.dueThrow("lineAt(0)", Check.INDEX, () -> book.lineAt(0));
        Document.about("6", "Throws `IndexOutOfBoundsException` if there is no such line, of either");
        Check.dueThrow("mustComeBefore(0, 0)", Check.INDEX, () -> book.mustComeBefore(0, 0));
        Document.about("10", "Throws `IndexOutOfBoundsException` if there is no such line");
        Check.dueThrow("isDoubtful(0)", Check.INDEX, () -> book.isDoubtful(0));
        Document.about("13", "Throws `IndexOutOfBoundsException` if there is no such line");
        Check.dueThrow("earliest(0)", Check.INDEX, () -> book.earliest(0));
    }

    private static void thirtyLines() {
        Document.about("Lines", "Lines are numbered from 0; there are at most 30.");
        OutageBook book = new OutageBook();
        for (int line = 0; line < 30; line++) {
            Check.due("lines before", book.lines(), line);
            Check.due("the number", book.write(line % 5, 10000 - line, line % 6, line % 2 > 0), line);
        }
        Check.due("lines", book.lines(), 30);
        Document.about("4", "Throws `IllegalStateException` if there are 30");
        Told.unchanged(book, "one more", Check.STATE, () -> book.write(0, 0, 0, true));
        Told.unchanged(book, "one more", Check.STATE, () -> book.write(4, 10000, 5, false));
        book.argue(29, 1, false);
        Told.unchanged(book, "one more than a doubtful one", Check.STATE, () -> book.write(0, 0, 0, true));
        Document.about("4", "Writes a line.");
        Check.due("30 places", Books.order(book).split(" ").length, 30);
        Document.about("4", "Returns its number.");
        Check.due("the first number", Books.withReadings(0).write(4, 10000, 5, false), 0);
        Check.due("the second number", Books.withReadings(0, 9).write(0, 0, 0, true), 1);
        Check.due("the last number", Books.withReadings(3, new int[29]).write(0, 0, 0, true), 29);
    }

    /** For each number of lines: the last one is there, and the number behind it is not. */
    private static void numberBehindTheLastOne() {
        OutageBook book = new OutageBook();
        for (int lines = 0; lines <= 30; lines++) {
            int behind = lines;
            Document.about("6", "Throws `IndexOutOfBoundsException` if there is no such line, of either");
            Check.dueThrow("behind the last", Check.INDEX, () -> book.mustComeBefore(behind, behind - 1));
            Check.dueThrow("behind the last", Check.INDEX, () -> book.mustComeBefore(behind - 1, behind));
            Check.dueThrow("-1", Check.INDEX, () -> book.mustComeBefore(-1, behind - 1));
            Check.dueThrow("-1", Check.INDEX, () -> book.mustComeBefore(behind - 1, -1));
            Document.about("7", "Throws `IndexOutOfBoundsException` if there is no such place");
            Check.dueThrow("behind the last", Check.INDEX, () -> book.lineAt(behind));
            Document.about("9", "Throws `IndexOutOfBoundsException` if there is no such line");
            Check.dueThrow("behind the last", Check.INDEX, () -> book.argue(behind, 1, true));
            Document.about("10", "Throws `IndexOutOfBoundsException` if there is no such line");
            Check.dueThrow("behind the last", Check.INDEX, () -> book.isDoubtful(behind));
            Document.about("12", "Throws `IndexOutOfBoundsException` if there is no such place");
            Check.dueThrow("behind the last", Check.INDEX, () -> book.storyAt(behind));
            Document.about("13", "Throws `IndexOutOfBoundsException` if there is no such line");
            Check.dueThrow("behind the last", Check.INDEX, () -> book.earliest(behind));
            if (lines < 30) {
                book.write(0, 500 - lines, 0, true);
                Check.due("the last one, first", book.lineAt(0), lines);
                Check.due("the first one, last", book.storyAt(lines), 0);
                Check.due("the last one", book.earliest(lines), 500 - lines);
                Check.due("the last one", book.argue(lines, 1, true), 1);
            }
        }
    }

    private static void fieldsAtTheirEnds() {
        Document.about("Lines", "A line has a clock, a reading, a service, 0 to 5, and is told to outsiders or"
                + " not.");
        for (int ends = 0; ends < 16; ends++) {
            OutageBook book = new OutageBook();
            int clock = (ends & 1) * 4;
            int reading = (ends >> 1 & 1) * 10000;
            int service = (ends >> 2 & 1) * 5;
            boolean isPublic = ends >> 3 == 1;
            book.write(clock, reading, service, isPublic);
            Check.due("earliest", book.earliest(0), clock == 0 ? reading : -1000000);
            Check.due("firstOf", book.firstOf(service), 0);
            Check.due("firstOf the other end", book.firstOf(5 - service), -1);
            Check.due("story", book.story(), isPublic ? 1 : 0);
            book.mark(0, 5000, 4, 5000, 0);
            Check.due("earliest when bound", book.earliest(0), reading);
        }
        Document.about("4", "`isPublic`: whether it is told to outsiders");
        OutageBook book = new OutageBook();
        book.write(0, 1, 0, false);
        Check.due("story without it", book.story(), 0);
        book.write(0, 1, 0, true);
        Check.due("story with the other one", Books.storyOf(book), "1");
        Document.about("4", "Throws `IllegalArgumentException` if an argument is out of range");
        Check.dueThrow("a clock", Check.ARGUMENT, () -> book.write(5, 1, 0, true));
        Check.dueThrow("a reading", Check.ARGUMENT, () -> book.write(0, 10001, 0, true));
        Check.dueThrow("a service", Check.ARGUMENT, () -> book.write(0, 1, 6, true));
    }

    private static void before() {
        Document.about("Lines", "A line must come before another one, if its true time is less than that of the"
                + " other one with all offsets that are possible.");
    }

    private static void readingsAtTheirEnds() {
        before();
        for (int clock = 0; clock < 5; clock++) {
            OutageBook book = Books.withReadings(clock, 10000, 0, 9999, 1);
            Check.due("0 and 10000", book.mustComeBefore(1, 0), true);
            Check.due("10000 and 0", book.mustComeBefore(0, 1), false);
            Check.due("0 and 1", book.mustComeBefore(1, 3), true);
            Check.due("9999 and 10000", book.mustComeBefore(2, 0), true);
            Check.due("10000 and 9999", book.mustComeBefore(0, 2), false);
            Check.due("the order", Books.order(book), "1 3 2 0");
        }
    }

    private static void equalTrueTimes() {
        before();
        OutageBook book = Books.withReadings(0, 0, 10000, 0, 10000);
        Check.due("both 0", book.mustComeBefore(0, 2), false);
        Check.due("both 0", book.mustComeBefore(2, 0), false);
        Check.due("both 10000", book.mustComeBefore(1, 3), false);
        Check.due("both 10000", book.mustComeBefore(3, 1), false);
        book.mark(0, 9000, 1, 0, 0);
        book.write(1, 1000, 0, true);
        book.write(1, 1001, 0, true);
        book.write(1, 999, 0, true);
        Check.due("one true time by two clocks", book.mustComeBefore(1, 4), false);
        Check.due("one true time by two clocks", book.mustComeBefore(4, 1), false);
        Check.due("one later", book.mustComeBefore(1, 5), true);
        Check.due("one earlier", book.mustComeBefore(6, 1), true);
        Check.due("one earlier, the other way", book.mustComeBefore(1, 6), false);
    }

    /** By a mark with the slack 3, what the clock 2 read as 50 is 47 to 53 by the clock 1. */
    private static void trueTimesThatCouldBeEqual() {
        before();
        OutageBook book = new OutageBook();
        book.mark(1, 10, 2, 10, 3);
        book.write(2, 50, 0, true);
        for (int reading = 44; reading <= 56; reading++) {
            int line = book.write(1, reading, 0, true);
            Check.due(reading + " and 47 to 53", book.mustComeBefore(line, 0), reading < 47);
            Check.due("47 to 53 and " + reading, book.mustComeBefore(0, line), reading > 53);
        }
        book.mark(1, 10, 2, 12, 1);
        for (int line = 1; line <= 13; line++) {
            int reading = 43 + line;
            Check.due(reading + " and 47 to 49", book.mustComeBefore(line, 0), reading < 47);
            Check.due("47 to 49 and " + reading, book.mustComeBefore(0, line), reading > 49);
        }
    }

    private static void lineAndItself() {
        Document.about("6", "Tells whether a line must come before another one.");
        OutageBook book = Books.FULL.make();
        for (int line = 0; line < 30; line++) {
            Check.due("a line and itself", book.mustComeBefore(line, line), false);
            for (int other = 0; other < line; other++) {
                boolean areBoth = book.mustComeBefore(line, other) && book.mustComeBefore(other, line);
                Check.due("both ways", areBoth, false);
            }
        }
    }

    private static void clocksNotBound() {
        before();
        OutageBook book = new OutageBook();
        book.write(1, 0, 0, true);
        book.write(2, 10000, 0, true);
        book.write(0, 0, 0, true);
        book.write(4, 10000, 0, true);
        book.mark(0, 0, 3, 0, 0);
        for (int line = 0; line < 4; line++) {
            for (int other = 0; other < 4; other++) {
                Check.due("not bound", book.mustComeBefore(line, other), false);
            }
        }
        book.mark(4, 0, 3, 0, 1000);
        Check.due("bound over another one", book.mustComeBefore(2, 3), true);
        Check.due("the others not", book.mustComeBefore(0, 1), false);
    }

    private static void farTrueTimes() {
        before();
        OutageBook book = new OutageBook();
        for (int clock = 0; clock < 4; clock++) {
            book.mark(clock, 10000, clock + 1, 0, 1000);
        }
        int early = book.write(0, 10000, 0, true);
        int late = book.write(4, 0, 0, true);
        Check.due("36000 later at least", book.earliest(late), 36000);
        Check.due("early before late", book.mustComeBefore(early, late), true);
        Check.due("late before early", book.mustComeBefore(late, early), false);
    }

    private static void told() {
        Document.about("Lines", "The order that is told is found like this: of the lines that are not in it yet,"
                + " the one with the lowest number is taken next for which no other line that is not in it"
                + " yet must come before it.");
    }

    /** On one clock equal readings stay in the order of their numbers: all ways of four readings. */
    private static void lowestNumber() {
        told();
        int[] readings = new int[5];
        for (int way = 0; way < 1024; way++) {
            for (int line = 0; line < 5; line++) {
                readings[line] = way >> 2 * line & 3;
            }
            StringBuilder want = new StringBuilder();
            for (int reading = 0; reading < 4; reading++) {
                for (int line = 0; line < 5; line++) {
                    want.append(readings[line] == reading ? line + " " : "");
                }
            }
            Check.due("the way " + way, Books.order(Books.withReadings(way % 5, readings)), want.toString().trim());
        }
        OutageBook apart = new OutageBook();
        for (int line = 0; line < 30; line++) {
            apart.write(line % 5, line, 0, true);
        }
        for (int place = 0; place < 30; place++) {
            Check.due("nothing holds one back", apart.lineAt(place), place);
        }
    }

    private static void heldBack() {
        told();
        OutageBook book = new OutageBook();
        book.write(0, 9, 0, true);
        book.write(1, 9, 0, true);
        book.write(0, 8, 0, true);
        book.write(1, 8, 0, true);
        book.write(0, 7, 0, true);
        // 0 waits for 2, and 2 for 4; 1 waits for 3 alone.
        Check.due("the lowest that nothing holds back", Books.order(book), "3 1 4 2 0");
        book.write(1, 7, 0, true);
        Check.due("one more", Books.order(book), "4 2 0 5 3 1");
        book.mark(0, 5, 1, 5, 0);
        Check.due("both bound", Books.order(book), "4 5 2 3 0 1");
        OutageBook weak = new OutageBook();
        weak.write(2, 5, 0, true);
        weak.write(0, 3, 0, true);
        weak.write(2, 4, 0, true);
        weak.mark(0, 3, 2, 3, 1);
        // 1 may be before 2 or after it, but must come before 0: it has the lower number.
        Check.due("may be before", Books.order(weak), "1 2 0");
    }

    private static void oneLine() {
        told();
        for (int clock = 0; clock < 5; clock++) {
            for (int reading = 0; reading <= 10000; reading += 10000) {
                OutageBook book = Books.withReadings(clock, reading);
                Check.due("the only line", book.lineAt(0), 0);
                Check.due("of the story", book.storyAt(0), 0);
                Check.due("orders", book.orders(), 1);
            }
        }
    }

    private static void placesOfTheOrder() {
        Document.about("7", "Returns the line at a place of the order that is told.");
        OutageBook book = Books.withReadings(2, 40, 30, 20, 10);
        for (int place = 0; place < 4; place++) {
            Check.due("the place " + place, book.lineAt(place), 3 - place);
        }
        Document.about("7", "`place`: 0 for the first one");
        Check.due("the first one", book.lineAt(0), 3);
        Check.dueThrow("the one before it", Check.INDEX, () -> book.lineAt(-1));
        Check.dueThrow("behind the last one", Check.INDEX, () -> book.lineAt(4));
        book.write(2, 0, 0, true);
        Check.due("an earlier first one", book.lineAt(0), 4);
        Check.due("the last one", book.lineAt(4), 0);
    }
}
