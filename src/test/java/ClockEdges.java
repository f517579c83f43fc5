/** The edges of clocks and marks: promises 1 to 3 and what the terms say of them. */
final class ClockEdges {
    private static final int[][] PAIRS = {
        {0, 1}, {0, 2}, {0, 3}, {0, 4}, {1, 2}, {1, 3}, {1, 4}, {2, 3}, {2, 4}, {3, 4},
    };
    private static final String STATE_OF_MARK = "Throws `IllegalStateException` if no values would be possible";

    private ClockEdges() {
    }

    static void test() {
        newObject();
        constants();
        eachPairOfClocks();
        offsetOfTheClockZero();
        slackZero();
        slackThousand();
        sameReading();
        sameClock();
        justPossible();
        clocksNotBound();
        boundOverOthers();
        refusedMarks();
        refusedOverOthers();
        refusedFarOff();
        refusedMarkLeavesTheRest();
        clockAndItself();
        greatestAndLeastBounds();
        noBound();
    }

    private static void newObject() {
        Document.about("1", "No lines, marks, measures and causes.");
        OutageBook book = new OutageBook();
        Check.due("lines", book.lines(), 0);
        Check.due("story", book.story(), 0);
        Check.due("minutes", book.minutes(), 0);
        Check.due("orders", book.orders(), 1);
        Check.dueThrow("roots", Check.INDEX, () -> book.roots(0));
        Check.due("greatest", book.greatest(0, 4), 1000000);
        Check.due("the first line", book.write(0, 0, 0, true), 0);
        Check.due("the first measure", book.measure(0, 0, 0, 0), 0);
        Check.due("the first cause", book.addCause(), 0);
        OutageBook another = new OutageBook();
        Check.due("lines of another one", another.lines(), 0);
        Check.due("all of another one", Told.by(another), Told.by(new OutageBook()));
    }

    private static void constants() {
        Document.about("Causes", "The constants: `NONE = -1`: There is none.");
        Check.due("NONE", OutageBook.NONE, -1);
        Document.about("Causes", "`UNBOUNDED = 1000000`: A bound that is not there.");
        Check.due("UNBOUNDED", OutageBook.UNBOUNDED, 1000000);
    }

    private static void eachPairOfClocks() {
        Document.about("Clocks", "There are the clocks 0 to 4.");
        for (int first = -1; first <= 5; first++) {
            for (int second = -1; second <= 5; second++) {
                boolean areClocks = first >= 0 && first < 5 && second >= 0 && second < 5;
                int one = first;
                int other = second;
                String asked = Check.answer(() -> new OutageBook().greatest(one, other));
                String told = Check.answer(() -> Books.mark(new OutageBook(), one, 5, other, 5, 5));
                String unbound = first == second ? "0" : "1000000";
                Check.due("greatest " + one + other, asked, areClocks ? unbound : "throws." + Check.ARGUMENT);
                boolean canBeBound = areClocks && first != second;
                Check.due("mark " + one + other, told, canBeBound ? "done" : "throws." + Check.ARGUMENT);
            }
        }
        Document.about("2", "Binds two clocks by a mark.");
        for (int[] pair : PAIRS) {
            OutageBook book = new OutageBook();
            book.mark(pair[1], 40, pair[0], 90, 3);
            Check.due("greatest of " + pair[1] + pair[0], book.greatest(pair[1], pair[0]), 53);
            Check.due("greatest of " + pair[0] + pair[1], book.greatest(pair[0], pair[1]), -47);
        }
    }

    private static void offsetOfTheClockZero() {
        Document.about("Clocks", "The true time of something that a clock read is its reading plus the offset"
                + " of the clock, a whole number that is not known; the offset of the clock 0 is 0.");
        OutageBook book = Books.withReadings(0, 0, 10000, 77);
        book.write(1, 50, 0, true);
        book.mark(0, 0, 1, 10000, 1000);
        Check.due("earliest(0)", book.earliest(0), 0);
        Check.due("earliest(1)", book.earliest(1), 10000);
        Check.due("earliest(2)", book.earliest(2), 77);
        Check.due("earliest(3)", book.earliest(3), 50 - 11000);
        Check.due("the least offset is what 0 has not more", book.greatest(0, 1), 11000);
        Check.due("the greatest offset", book.greatest(1, 0), -9000);
    }

    private static void differAtMost() {
        Document.about("Clocks", "A mark binds two clocks: something was read by the first one and by the"
                + " second one, and both true times differ by at most a slack.");
    }

    private static void slackZero() {
        differAtMost();
        OutageBook book = new OutageBook();
        book.mark(2, 10, 3, 4, 0);
        Check.due("greatest(2, 3)", book.greatest(2, 3), -6);
        Check.due("greatest(3, 2)", book.greatest(3, 2), 6);
        book.mark(2, 10000, 3, 9994, 0);
        Told.unchanged(book, "one more", Check.STATE, () -> Books.mark(book, 2, 10, 3, 5, 0));
        Told.unchanged(book, "one less", Check.STATE, () -> Books.mark(book, 2, 10, 3, 3, 0));
        Check.due("one more with the slack 1", Books.mark(book, 2, 10, 3, 5, 1), "done");
        Check.due("one less with the slack 1", Books.mark(book, 2, 10, 3, 3, 1), "done");
        Check.due("greatest(2, 3) as it was", book.greatest(2, 3), -6);
    }

    private static void slackThousand() {
        differAtMost();
        OutageBook book = new OutageBook();
        book.mark(4, 0, 1, 0, 1000);
        Check.due("greatest(4, 1)", book.greatest(4, 1), 1000);
        Check.due("greatest(1, 4)", book.greatest(1, 4), 1000);
        Told.unchanged(book, "2001 off", Check.STATE, () -> Books.mark(book, 4, 0, 1, 2001, 1000));
        Told.unchanged(book, "2001 off", Check.STATE, () -> Books.mark(book, 4, 2001, 1, 0, 1000));
        Check.due("2000 off", Books.mark(book, 4, 0, 1, 2000, 1000), "done");
        Check.due("one value is left", book.greatest(4, 1), 1000);
        Check.due("one value is left", book.greatest(1, 4), -1000);
    }

    private static void sameReading() {
        differAtMost();
        for (int reading = 0; reading <= 10000; reading += 5000) {
            OutageBook book = new OutageBook();
            book.mark(1, reading, 2, reading, 7);
            Check.due("greatest(1, 2) by " + reading, book.greatest(1, 2), 7);
            Check.due("greatest(2, 1) by " + reading, book.greatest(2, 1), 7);
            book.mark(1, reading, 2, reading, 0);
            Check.due("greatest(1, 2) by " + reading, book.greatest(1, 2), 0);
            Check.due("greatest(2, 1) by " + reading, book.greatest(2, 1), 0);
        }
    }

    private static void sameClock() {
        Document.about("2", "Throws `IllegalArgumentException` if an argument is out of range, or both clocks"
                + " are the same");
        for (int clock = 0; clock < 5; clock++) {
            int one = clock;
            for (Books.Made books : Books.ALL) {
                OutageBook book = books.make();
                Told.unchanged(book, "at once", Check.ARGUMENT, () -> Books.mark(book, one, 9, one, 9, 0));
                Told.unchanged(book, "within", Check.ARGUMENT, () -> Books.mark(book, one, 9, one, 8, 1000));
                Told.unchanged(book, "beyond", Check.ARGUMENT, () -> Books.mark(book, one, 9, one, 99, 0));
            }
        }
        Document.about("3", "Throws `IllegalArgumentException` if an argument is out of range");
        Check.dueThrow("first", Check.ARGUMENT, () -> new OutageBook().greatest(5, 0));
        Check.dueThrow("second", Check.ARGUMENT, () -> new OutageBook().greatest(0, 5));
        Check.dueThrow("both, the same", Check.ARGUMENT, () -> new OutageBook().greatest(5, 5));
    }

    private static void justPossible() {
        differAtMost();
        OutageBook book = new OutageBook();
        book.mark(0, 500, 1, 400, 20);
        Check.due("a later end", Books.mark(book, 0, 500, 1, 435, 15), "done");
        Check.due("greatest(0, 1)", book.greatest(0, 1), -80);
        Check.due("greatest(1, 0)", book.greatest(1, 0), 80);
        OutageBook other = new OutageBook();
        other.mark(0, 500, 1, 400, 20);
        Check.due("an earlier end", Books.mark(other, 1, 365, 0, 500, 15), "done");
        Check.due("greatest(0, 1)", other.greatest(0, 1), -120);
        Check.due("greatest(1, 0)", other.greatest(1, 0), 120);
    }

    private static void notBound() {
        Document.about("Clocks", "What is possible for the offsets are all values with which this holds for all"
                + " marks; without marks between them, directly or over others, two clocks do not bound one"
                + " another.");
    }

    /** All sets of pairs that can be marked: clocks 700 apart, and the slack 1 for each mark on the way. */
    private static void clocksNotBound() {
        notBound();
        for (int set = 0; set < 1 << PAIRS.length; set++) {
            OutageBook book = new OutageBook();
            for (int turn = 0; turn < PAIRS.length; turn++) {
                int at = set % 2 == 0 ? turn : PAIRS.length - 1 - turn;
                if ((set >> at & 1) == 1) {
                    int first = PAIRS[at][turn % 2];
                    int second = PAIRS[at][1 - turn % 2];
                    book.mark(first, 5000 - 700 * first, second, 5000 - 700 * second, 1);
                }
            }
            dueSteps(book, set);
        }
    }

    private static void dueSteps(OutageBook book, int set) {
        for (int from = 0; from < 5; from++) {
            int[] steps = steps(set, from);
            for (int to = 0; to < 5; to++) {
                int want = steps[to] == 1000000 ? 1000000 : 700 * (to - from) + steps[to];
                Check.due("greatest " + to + from + " of the set " + set, book.greatest(to, from), want);
            }
        }
    }

    private static int[] steps(int set, int from) {
        int[] steps = {1000000, 1000000, 1000000, 1000000, 1000000};
        steps[from] = 0;
        for (int round = 0; round < 4; round++) {
            for (int at = 0; at < PAIRS.length; at++) {
                int[] pair = PAIRS[at];
                if ((set >> at & 1) == 1) {
                    steps[pair[0]] = Math.min(steps[pair[0]], steps[pair[1]] + 1);
                    steps[pair[1]] = Math.min(steps[pair[1]], steps[pair[0]] + 1);
                }
            }
        }
        return steps;
    }

    private static OutageBook chain() {
        OutageBook book = new OutageBook();
        book.mark(3, 0, 4, 40, 4);
        book.mark(1, 0, 2, 20, 2);
        book.mark(0, 0, 1, 10, 1);
        return book;
    }

    private static void boundOverOthers() {
        notBound();
        OutageBook book = chain();
        Check.due("0 and 2 over 1", book.greatest(0, 2), 33);
        Check.due("0 and 4, not bound yet", book.greatest(0, 4), 1000000);
        Check.due("2 and 3, not bound yet", book.greatest(3, 2), 1000000);
        book.mark(2, 0, 3, 30, 3);
        Check.due("0 and 4 over all", book.greatest(0, 4), 110);
        Check.due("4 and 0 over all", book.greatest(4, 0), -90);
        book.mark(0, 0, 4, 90, 0);
        Check.due("the ends bind those between", book.greatest(1, 2), 18);
        Check.due("the ends bind those between", book.greatest(2, 1), -18);
        Check.due("those that have no mark too", book.greatest(1, 3), 45);
        book.mark(1, 0, 2, 18, 1000);
        Check.due("a looser mark changes nothing", book.greatest(1, 2), 18);
    }

    private static void refusedMarks() {
        Document.about("Clocks", "A mark that would leave no values possible is refused.");
        for (int slack = 0; slack <= 1000; slack += 250) {
            for (int more = 0; more <= 1000; more += 250) {
                int told = slack;
                int both = slack + more;
                OutageBook book = new OutageBook();
                book.mark(1, 5000, 2, 5000, more);
                Told.unchanged(book, "too early", Check.STATE,
                        () -> Books.mark(book, 1, 5000, 2, 4999 - both, told));
                Told.unchanged(book, "too late", Check.STATE,
                        () -> Books.mark(book, 1, 5000, 2, 5001 + both, told));
                Told.unchanged(book, "too late by the other one", Check.STATE,
                        () -> Books.mark(book, 2, 5001 + both, 1, 5000, told));
                Check.due("just early enough", Books.mark(book, 2, 5000 - both, 1, 5000, slack), "done");
                Check.due("one value is left", book.greatest(1, 2) + book.greatest(2, 1), 0);
                Check.due("the value", book.greatest(1, 2), -more);
            }
        }
    }

    /** For pairs of clocks of the chain: the least and the greatest value that it leaves. */
    private static void refusedOverOthers() {
        Document.about("2", STATE_OF_MARK);
        int[][] edges = {{0, 4, 90, 110}, {0, 3, 54, 66}, {0, 2, 27, 33}, {0, 1, 9, 11}, {1, 4, 81, 99}};
        for (int[] edge : edges) {
            for (int slack = 0; slack < 4; slack++) {
                int least = edge[2] - slack;
                int most = edge[3] + slack;
                closing(edge[0], edge[1], least - 1, slack, "throws." + Check.STATE);
                closing(edge[0], edge[1], least, slack, "done");
                closing(edge[0], edge[1], most, slack, "done");
                closing(edge[0], edge[1], most + 1, slack, "throws." + Check.STATE);
            }
        }
    }

    private static void closing(int first, int second, int apart, int slack, String want) {
        OutageBook book = chain();
        book.mark(2, 0, 3, 30, 3);
        Check.due("a mark of " + first + second + " that is " + apart + " apart",
                Check.answer(() -> Books.mark(book, first, 0, second, apart, slack)), want);
        OutageBook other = chain();
        other.mark(2, 0, 3, 30, 3);
        Check.due("a mark of " + second + first + " that is " + apart + " apart",
                Check.answer(() -> Books.mark(other, second, apart, first, 0, slack)), want);
    }

    /** Clocks that are so far apart that no reading and no slack could tell it. */
    private static void refusedFarOff() {
        Document.about("2", STATE_OF_MARK);
        OutageBook book = new OutageBook();
        for (int clock = 0; clock < 4; clock++) {
            book.mark(clock, 0, clock + 1, 10000, 1000);
        }
        for (int[] pair : PAIRS) {
            String want = pair[1] - pair[0] == 1 ? "done" : "throws." + Check.STATE;
            String later = Check.answer(() -> Books.mark(book, pair[0], 0, pair[1], 10000, 1000));
            String earlier = Check.answer(() -> Books.mark(book, pair[1], 0, pair[0], 10000, 1000));
            Check.due(pair[0] + " far behind " + pair[1], later, want);
            Check.due(pair[0] + " far ahead of " + pair[1], earlier, "throws." + Check.STATE);
        }
        Check.due("greatest(0, 4)", book.greatest(0, 4), 44000);
        Check.due("greatest(4, 0)", book.greatest(4, 0), -36000);
    }

    private static void refusedMarkLeavesTheRest() {
        Document.about("2", STATE_OF_MARK);
        OutageBook book = new OutageBook();
        book.mark(0, 0, 1, 100, 0);
        Check.dueThrow("a mark that no value allows", Check.STATE, () -> Books.mark(book, 1, 0, 0, 100, 0));
        Check.due("the same clocks once more", Books.mark(book, 1, 100, 0, 0, 0), "done");
        Check.dueThrow("a wide mark", Check.STATE, () -> Books.mark(book, 0, 5000, 1, 0, 1000));
        Check.due("greatest(0, 1)", book.greatest(0, 1), 100);
        Check.due("greatest(1, 0)", book.greatest(1, 0), -100);
        Check.due("greatest(0, 2)", book.greatest(0, 2), OutageBook.UNBOUNDED);
    }

    private static void clockAndItself() {
        Document.about("3", "Returns the greatest possible offset of a clock less that of another one;"
                + " UNBOUNDED if there is none.");
        for (Books.Made books : Books.ALL) {
            OutageBook book = books.make();
            for (int clock = 0; clock < 5; clock++) {
                Check.due("a clock and itself", book.greatest(clock, clock), 0);
            }
        }
        OutageBook wide = new OutageBook();
        wide.mark(1, 0, 2, 10000, 1000);
        wide.mark(2, 9500, 1, 0, 1000);
        Check.due("after wide marks", wide.greatest(1, 1), 0);
        Check.due("after wide marks", wide.greatest(2, 2), 0);
    }

    private static void greatestAndLeastBounds() {
        Document.about("3", "Returns the greatest possible offset of a clock less that of another one;"
                + " UNBOUNDED if there is none.");
        OutageBook book = new OutageBook();
        for (int clock = 0; clock < 4; clock++) {
            book.mark(clock, 0, clock + 1, 10000, 1000);
        }
        for (int clock = 1; clock < 5; clock++) {
            Check.due("0 less " + clock, book.greatest(0, clock), 11000 * clock);
            Check.due(clock + " less 0", book.greatest(clock, 0), -9000 * clock);
        }
        book.write(4, 0, 0, true);
        book.write(0, 10000, 0, true);
        Check.due("a true time far below 0", book.earliest(0), -44000);
        Check.due("it is before", book.mustComeBefore(0, 1), true);
    }

    private static void noBound() {
        Document.about("3", "Returns the greatest possible offset of a clock less that of another one;"
                + " UNBOUNDED if there is none.");
        OutageBook book = new OutageBook();
        book.mark(1, 0, 2, 10000, 0);
        book.mark(3, 10000, 4, 0, 0);
        for (int clock = 1; clock < 5; clock++) {
            Check.due("0 less " + clock, book.greatest(0, clock), OutageBook.UNBOUNDED);
            Check.due(clock + " less 0", book.greatest(clock, 0), OutageBook.UNBOUNDED);
        }
        Check.due("2 less 3", book.greatest(2, 3), OutageBook.UNBOUNDED);
        Check.due("1 less 3", book.greatest(1, 3), OutageBook.UNBOUNDED);
        Check.due("2 less 1", book.greatest(2, 1), -10000);
        book.mark(4, 0, 0, 0, 1000);
        Check.due("0 less 3", book.greatest(0, 3), 11000);
        Check.due("3 less 0", book.greatest(3, 0), -9000);
        Check.due("0 less 2", book.greatest(0, 2), OutageBook.UNBOUNDED);
        Check.due("2 less 0", book.greatest(2, 0), OutageBook.UNBOUNDED);
    }
}
