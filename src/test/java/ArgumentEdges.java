/**
 * The range of each argument of each promise: its least and greatest value are taken, what is one
 * beyond them or far off is refused by books that are empty, begun and full, and changes nothing.
 */
final class ArgumentEdges {
    private static final int[] FAR_OFF = {
        Integer.MIN_VALUE, Integer.MIN_VALUE + 1, -1000000000, -65536, -10001, -33, -32, -31, -1,
        32, 33, 256, 65536, 20000, 65537, 1000000000, Integer.MAX_VALUE - 1, Integer.MAX_VALUE,
    };

    private ArgumentEdges() {
    }

    /** A call of the face with its arguments; one that is yes or no is a number here, 1 for yes. */
    interface Call {
        Object on(OutageBook book, int... arguments);
    }

    static void test() {
        marks();
        writes();
        doubts();
        services();
        measures();
        reasons();
        linesAndPlaces();
        causes();
    }

    private static Check.Call with(Call call, OutageBook book, int[] good, int at, int value) {
        int[] arguments = good.clone();
        arguments[at] = value;
        return () -> call.on(book, arguments);
    }

    private static void refused(Call call, int[] good, int at, int value, String exception) {
        for (Books.Made books : Books.ALL) {
            OutageBook book = books.make();
            Told.unchanged(book, "argument " + at + " as " + value, exception,
                    with(call, book, good, at, value));
        }
    }

    /** What a range of the document says, for the argument at a place of a call that is good. */
    private static void range(String promise, String range, int at, int least, int most,
            Call call, int... good) {
        Document.about(promise, range);
        refused(call, good, at, least - 1, Check.ARGUMENT);
        refused(call, good, at, most + 1, Check.ARGUMENT);
        for (int value : FAR_OFF) {
            if (value < least || value > most) {
                refused(call, good, at, value, Check.ARGUMENT);
            }
        }
        taken(call, good, at, least);
        taken(call, good, at, most);
    }

    private static void taken(Call call, int[] good, int at, int value) {
        String answer = Check.answer(with(call, Books.BEGUN.make(), good, at, value));
        Check.due(value + " is taken", answer.startsWith("throws."), false);
    }

    private static void marks() {
        Call mark = (book, a) -> Books.mark(book, a[0], a[1], a[2], a[3], a[4]);
        range("2", "`first`: 0 to 4", 0, 0, 4, mark, 4, 100, 2, 100, 1000);
        range("2", "`first`: 0 to 4", 0, 0, 4, mark, 0, 100, 2, 100, 0);
        range("2", "`firstReading`: 0 to 10000", 1, 0, 10000, mark, 2, 5000, 3, 5000, 0);
        range("2", "`second`: 0 to 4, another clock", 2, 0, 4, mark, 2, 100, 4, 100, 1000);
        range("2", "`second`: 0 to 4, another clock", 2, 0, 4, mark, 2, 100, 0, 100, 0);
        range("2", "`secondReading`: 0 to 10000", 3, 0, 10000, mark, 2, 5000, 3, 5000, 0);
        range("2", "`slack`: 0 to 1000", 4, 0, 1000, mark, 1, 0, 2, 0, 500);
        Call greatest = (book, a) -> book.greatest(a[0], a[1]);
        range("3", "`clock`: 0 to 4", 0, 0, 4, greatest, 1, 2);
        range("3", "`clock`: 0 to 4", 0, 0, 4, greatest, 0, 0);
        range("3", "`other`: 0 to 4", 1, 0, 4, greatest, 4, 4);
        range("3", "`other`: 0 to 4", 1, 0, 4, greatest, 0, 3);
    }

    private static void writes() {
        Call write = (book, a) -> book.write(a[0], a[1], a[2], a[3] == 1);
        for (int isPublic = 0; isPublic < 2; isPublic++) {
            range("4", "`clock`: 0 to 4", 0, 0, 4, write, 2, 200, 3, isPublic);
            range("4", "`reading`: 0 to 10000", 1, 0, 10000, write, 4, 200, 5, isPublic);
            range("4", "`service`: 0 to 5", 2, 0, 5, write, 0, 200, 0, isPublic);
        }
    }

    private static void doubts() {
        for (int isFor = 0; isFor < 2; isFor++) {
            Document.about("9", "`weight`: 1 to 100");
            OutageBook book = Books.BEGUN.make();
            int before = book.argue(3, 1, true);
            for (int weight : FAR_OFF) {
                boolean isRight = weight >= 1 && weight <= 100;
                argueRefused(book, isRight ? 101 : weight, isFor == 1);
            }
            argueRefused(book, 0, isFor == 1);
            argueRefused(Books.FULL.make(), 101, isFor == 1);
            Check.due("the weight 1", book.argue(3, 1, isFor == 1), before + 2 * isFor - 1);
            Check.due("the weight 100", book.argue(3, 100, isFor == 1), before + 202 * isFor - 101);
        }
    }

    private static void argueRefused(OutageBook book, int weight, boolean isFor) {
        Told.unchanged(book, "the weight " + weight, Check.ARGUMENT, () -> book.argue(3, weight, isFor));
    }

    private static void services() {
        range("14", "`service`: 0 to 5", 0, 0, 5, (book, a) -> book.firstOf(a[0]), 3);
        range("16", "`service`: 0 to 5", 0, 0, 5, (book, a) -> book.impact(a[0]), 3);
    }

    private static void measures() {
        Call measure = (book, a) -> book.measure(a[0], a[1], a[2], a[3]);
        range("15", "`service`: 0 to 5", 0, 0, 5, measure, 0, 10, 20, 30);
        range("15", "`from`: 0 to 10000", 1, 0, 10000, measure, 0, 10, 10000, 30);
        range("15", "`to`: from to 10000", 2, 10, 10000, measure, 0, 10, 20, 30);
        range("15", "`to`: from to 10000", 2, 0, 10000, measure, 5, 0, 20, 30);
        range("15", "`to`: from to 10000", 2, 10000, 10000, measure, 2, 10000, 10000, 30);
        range("15", "`percent`: 0 to 100", 3, 0, 100, measure, 0, 10, 20, 30);
        range("15", "`percent`: 0 to 100", 3, 0, 100, measure, 5, 10000, 10000, 30);
        Check.due("from behind to, both in range",
                Check.answer(() -> new OutageBook().measure(0, 10000, 0, 1)), "throws." + Check.ARGUMENT);
        Check.due("both one too large",
                Check.answer(() -> new OutageBook().measure(0, 10001, 10001, 1)), "throws." + Check.ARGUMENT);
        Check.due("both one too small",
                Check.answer(() -> new OutageBook().measure(0, -1, -1, 1)), "throws." + Check.ARGUMENT);
    }

    private static void reasons() {
        Document.about("19", "`weight`: 0 to 100; 0 takes it back");
        OutageBook book = Books.BEGUN.make();
        OutageBook full = Books.FULL.make();
        for (int weight : FAR_OFF) {
            int wrong = weight >= 0 && weight <= 100 ? 101 : weight;
            Told.unchanged(book, "the weight " + wrong, Check.ARGUMENT, () -> book.argueReason(0, 1, wrong));
            Told.unchanged(full, "the weight " + wrong, Check.ARGUMENT, () -> full.argueReason(2, 1, wrong));
        }
        Check.due("as it was", book.argueReason(0, 1, 100), 40);
        Check.due("the weight 100", book.argueReason(0, 1, 1), 100);
        Check.due("the weight 1", book.argueReason(0, 1, 0), 1);
        Check.due("the weight 0", book.argueReason(0, 1, 0), 0);
        Check.due("what was taken back is no reason", book.mainReason(0), OutageBook.NONE);
    }

    /** A number of a line or cause, or a place: from 0 to the last one, and none beside it. */
    private static void index(String promise, String sentence, int size, Books.Made books, Call call) {
        Document.about(promise, sentence);
        if (size > 0) {
            indexTaken(books.make(), 0, call);
            indexTaken(books.make(), size - 1, call);
        }
        indexRefused(books.make(), size, call);
        indexRefused(books.make(), size + 1, call);
        for (int index : FAR_OFF) {
            indexRefused(books.make(), index, call);
        }
    }

    private static void indexTaken(OutageBook book, int index, Call call) {
        String answer = Check.answer(() -> call.on(book, index));
        Check.due(index + " is one", answer.startsWith("throws."), false);
    }

    private static void indexRefused(OutageBook book, int index, Call call) {
        Told.unchanged(book, index + " is none", Check.INDEX, () -> call.on(book, index));
    }

    private static void lineOrPlace(String promise, String sentence, Call call) {
        index(promise, sentence, 0, Books.EMPTY, call);
        index(promise, sentence, 1, () -> Books.withReadings(0, 5), call);
        index(promise, sentence, 4, Books.BEGUN, call);
        index(promise, sentence, 30, Books.FULL, call);
    }

    private static void linesAndPlaces() {
        String noLine = "Throws `IndexOutOfBoundsException` if there is no such line";
        String noPlace = "Throws `IndexOutOfBoundsException` if there is no such place";
        lineOrPlace("6", noLine + ", of either", (book, a) -> book.mustComeBefore(a[0], 0));
        lineOrPlace("6", noLine + ", of either", (book, a) -> book.mustComeBefore(0, a[0]));
        lineOrPlace("6", noLine + ", of either", (book, a) -> book.mustComeBefore(a[0], a[0]));
        lineOrPlace("7", noPlace, (book, a) -> book.lineAt(a[0]));
        lineOrPlace("9", noLine, (book, a) -> book.argue(a[0], 1, true));
        lineOrPlace("9", noLine, (book, a) -> book.argue(a[0], 100, false));
        lineOrPlace("10", noLine, (book, a) -> book.isDoubtful(a[0]));
        lineOrPlace("13", noLine, (book, a) -> book.earliest(a[0]));
        index("12", noPlace, 0, Books.EMPTY, (book, a) -> book.storyAt(a[0]));
        index("12", noPlace, 1, () -> Books.withReadings(0, 5), (book, a) -> book.storyAt(a[0]));
        index("12", noPlace, 2, Books.BEGUN, (book, a) -> book.storyAt(a[0]));
        index("12", noPlace, Books.FULL.make().story(), Books.FULL, (book, a) -> book.storyAt(a[0]));
    }

    private static void cause(String promise, String sentence, Call call) {
        index(promise, sentence, 0, Books.EMPTY, call);
        index(promise, sentence, 4, Books.BEGUN, call);
        index(promise, sentence, 16, Books.FULL, call);
    }

    private static void causes() {
        String noCause = "Throws `IndexOutOfBoundsException` if there is no such cause";
        cause("20", noCause, (book, a) -> book.setStanding(a[0], false));
        cause("20", noCause, (book, a) -> book.setStanding(a[0], true));
        cause("21", noCause, (book, a) -> book.roots(a[0]));
        cause("22", noCause, (book, a) -> book.mainReason(a[0]));
        cause("19", noCause + ", of either", (book, a) -> book.argueReason(a[0], 1, 0));
        cause("19", noCause + ", of either", (book, a) -> book.argueReason(1, a[0], 0));
        reasonRefused((book, a) -> book.argueReason(a[0], 2, 100));
        reasonRefused((book, a) -> book.argueReason(2, a[0], 100));
        reasonRefused((book, a) -> book.argueReason(a[0], a[0], 1));
    }

    private static void reasonRefused(Call call) {
        int[] sizes = {0, 4, 16};
        for (int at = 0; at < sizes.length; at++) {
            indexRefused(Books.ALL[at].make(), sizes[at], call);
            for (int index : FAR_OFF) {
                indexRefused(Books.ALL[at].make(), index, call);
            }
        }
    }
}
