import java.util.ArrayList;
import java.util.List;

/** The edges of the terms: which exception comes first, what a refused call leaves, the 512th call. */
final class TermsEdges {
    private static final int CALLS = 512;

    private TermsEdges() {
    }

    interface Refused {
        Object by(OutageBook book);
    }

    static void test() {
        firstExceptionOfMarks();
        firstExceptionOfLines();
        firstExceptionOfMeasures();
        firstExceptionOfReasons();
        refusedCallsChangeNothing();
        refusedCallsInOneRun();
        weightsAtTheLastCall();
        marksAtTheLastCall();
        reasonsAtTheLastCall();
        refusalsUpToTheLastCall();
        questionsUpToTheLastCall();
    }

    private static void listedFirst() {
        Document.about("Terms", "A method throws IndexOutOfBoundsException if there is no such line, cause"
                + " or place, IllegalArgumentException if another argument is out of range, and"
                + " IllegalStateException as it documents; if several apply, the one that it lists first is"
                + " thrown.");
    }

    private static void first(Books.Made books, String exception, Refused call) {
        OutageBook book = books.make();
        Told.unchanged(book, "a call with several faults", exception, () -> call.by(book));
    }

    /** Each call would leave no values possible, too. */
    private static void firstExceptionOfMarks() {
        listedFirst();
        int[] far = {0, 10000, 1, 0, 0};
        first(Books.BEGUN, Check.STATE, book -> Books.mark(book, 0, 10000, 1, 0, 0));
        int[][] wrongs = {{5, -1}, {10001, -1}, {5, -1, 0}, {10001, -1}, {-1, 1001}};
        for (int at = 0; at < far.length; at++) {
            for (int wrong : wrongs[at]) {
                int[] a = far.clone();
                a[at] = wrong;
                first(Books.BEGUN, Check.ARGUMENT, book -> Books.mark(book, a[0], a[1], a[2], a[3], a[4]));
                first(Books.FULL, Check.ARGUMENT, book -> Books.mark(book, a[0], a[1], a[2], a[3], a[4]));
            }
        }
    }

    private static void firstExceptionOfLines() {
        listedFirst();
        first(Books.FULL, Check.STATE, book -> book.write(0, 0, 0, true));
        int[][] wrongs = {{-1, 0, 0}, {5, 0, 0}, {0, -1, 0}, {0, 10001, 0}, {0, 0, -1}, {0, 0, 6}};
        for (int[] w : wrongs) {
            first(Books.FULL, Check.ARGUMENT, book -> book.write(w[0], w[1], w[2], false));
        }
        for (int weight : new int[] {0, 101, -1, Integer.MIN_VALUE, Integer.MAX_VALUE}) {
            first(Books.EMPTY, Check.INDEX, book -> book.argue(0, weight, true));
            first(Books.BEGUN, Check.INDEX, book -> book.argue(4, weight, false));
            first(Books.FULL, Check.INDEX, book -> book.argue(30, weight, true));
            first(Books.FULL, Check.INDEX, book -> book.argue(-1, weight, false));
            first(Books.FULL, Check.ARGUMENT, book -> book.argue(29, weight, false));
        }
    }

    private static void firstExceptionOfMeasures() {
        listedFirst();
        first(Books.FULL, Check.STATE, book -> book.measure(0, 0, 0, 0));
        int[][] wrongs = {
            {-1, 5, 5, 5}, {6, 5, 5, 5}, {0, -1, 5, 5}, {0, 10001, 10001, 5}, {0, 5, 4, 5},
            {0, 5, 10001, 5}, {0, 5, 5, -1}, {0, 5, 5, 101},
        };
        for (int[] w : wrongs) {
            first(Books.FULL, Check.ARGUMENT, book -> book.measure(w[0], w[1], w[2], w[3]));
        }
    }

    /** In a book that is begun, the cause 0 is because of 1, and over it because of 2. */
    private static void firstExceptionOfReasons() {
        listedFirst();
        first(Books.BEGUN, Check.STATE, book -> book.argueReason(2, 0, 100));
        for (int weight : new int[] {-1, 101, Integer.MIN_VALUE, Integer.MAX_VALUE}) {
            first(Books.BEGUN, Check.ARGUMENT, book -> book.argueReason(2, 0, weight));
            first(Books.BEGUN, Check.ARGUMENT, book -> book.argueReason(1, 0, weight));
            first(Books.BEGUN, Check.ARGUMENT, book -> book.argueReason(1, 1, weight));
            first(Books.BEGUN, Check.INDEX, book -> book.argueReason(4, 0, weight));
            first(Books.BEGUN, Check.INDEX, book -> book.argueReason(0, 4, weight));
            first(Books.BEGUN, Check.INDEX, book -> book.argueReason(-1, -1, weight));
        }
        for (int weight = 0; weight <= 100; weight += 50) {
            int told = weight;
            first(Books.BEGUN, Check.INDEX, book -> book.argueReason(4, 4, told));
            first(Books.BEGUN, Check.ARGUMENT, book -> book.argueReason(0, 0, told));
        }
    }

    /** One call or more for each exception of each method that throws it. */
    private static List<Refused> refusedByFullBooks() {
        List<Refused> calls = new ArrayList<>();
        calls.add(book -> Books.mark(book, 0, 0, 5, 0, 0));
        calls.add(book -> Books.mark(book, 2, 50, 2, 50, 1000));
        calls.add(book -> Books.mark(book, 2, 50, 3, 70, 1001));
        calls.add(book -> Books.mark(book, 1, 60, 0, 111, 0));
        calls.add(book -> Books.mark(book, 4, 201, 3, 100, 0));
        calls.add(book -> book.greatest(0, 5));
        calls.add(book -> book.write(0, 0, 6, true));
        calls.add(book -> book.write(0, 0, 5, true));
        calls.add(book -> book.mustComeBefore(30, 0));
        calls.add(book -> book.lineAt(30));
        calls.add(book -> book.orders());
        calls.add(book -> book.argue(30, 1, false));
        calls.add(book -> book.argue(5, 0, false));
        calls.add(book -> book.argue(5, 101, false));
        calls.add(book -> book.argue(5, -100, true));
        calls.add(book -> book.isDoubtful(30));
        calls.add(book -> book.storyAt(30));
        calls.add(book -> book.earliest(30));
        calls.add(book -> book.firstOf(6));
        calls.add(book -> book.measure(0, 1, 0, 100));
        calls.add(book -> book.measure(0, 0, 10000, 100));
        calls.add(book -> book.impact(6));
        calls.add(book -> book.addCause());
        calls.add(book -> book.argueReason(0, 16, 100));
        calls.add(book -> book.argueReason(0, 1, 101));
        calls.add(book -> book.argueReason(0, 0, 0));
        calls.add(book -> book.argueReason(2, 0, 100));
        calls.add(book -> book.setStanding(16, true));
        calls.add(book -> book.roots(16));
        calls.add(book -> book.mainReason(16));
        return calls;
    }

    private static void refusedCallsChangeNothing() {
        Document.about("Terms", "A call that throws changes nothing.");
        String asItWas = Told.andSpent(Books.FULL.make());
        int number = 0;
        for (Refused call : refusedByFullBooks()) {
            OutageBook book = Books.FULL.make();
            String answer = Check.answer(() -> call.by(book));
            Check.due("call " + number + " throws", answer.startsWith("throws."), true);
            Check.due("all after call " + number, Told.andSpent(book), asItWas);
            number++;
        }
    }

    /** What is refused before a book is full leaves room for as much as without it. */
    private static void refusedCallsInOneRun() {
        Document.about("Terms", "A call that throws changes nothing.");
        OutageBook book = Books.BEGUN.make();
        for (Refused call : refusedByFullBooks()) {
            String answer = Check.answer(() -> call.by(Books.BEGUN.make()));
            if (answer.startsWith("throws.")) {
                Check.due("the same in one run", Check.answer(() -> call.by(book)), answer);
            }
        }
        Check.due("all after them", Told.andSpent(book), Told.andSpent(Books.BEGUN.make()));
    }

    private static void atMost512() {
        Document.about("What it is", "An object is used for at most 512 calls after it has been made; what"
                + " later calls answer is free.");
    }

    private static void weightsAtTheLastCall() {
        atMost512();
        OutageBook trusted = Books.withReadings(0, 5);
        OutageBook doubted = Books.withReadings(0, 5);
        for (int call = 1; call < CALLS; call++) {
            Check.due("for, call " + call, trusted.argue(0, 100, true), 100 * call);
            Check.due("against, call " + call, doubted.argue(0, 100, false), -100 * call);
        }
    }

    private static void marksAtTheLastCall() {
        atMost512();
        OutageBook book = new OutageBook();
        for (int call = 1; call < CALLS; call += 2) {
            int slack = CALLS - call;
            book.mark(3, 7, 4, 9, slack);
            Check.due("greatest, call " + (call + 1), book.greatest(4, 3), slack - 2);
        }
        OutageBook marked = new OutageBook();
        for (int call = 0; call < CALLS - 1; call++) {
            marked.mark(call % 5, 0, (call + 1) % 5, 0, 1000);
        }
        Check.due("greatest after 511 marks", marked.greatest(2, 4), 2000);
    }

    private static void reasonsAtTheLastCall() {
        atMost512();
        OutageBook book = Books.withCauses(2);
        OutageBook withdrawn = Books.withCauses(1);
        int weight = 0;
        for (int call = 2; call < CALLS; call++) {
            int next = call % 101;
            Check.due("argueReason, call " + call, book.argueReason(1, 0, next), weight);
            weight = next;
            boolean isStanding = call % 2 == 1;
            Check.due("setStanding, call " + call, withdrawn.setStanding(0, isStanding), !isStanding);
        }
    }

    private static void refusalsUpToTheLastCall() {
        atMost512();
        OutageBook book = new OutageBook();
        for (int call = 0; call < 30; call++) {
            book.write(call % 5, 10000, 5, true);
        }
        for (int call = 30; call < CALLS - 1; call++) {
            Check.dueThrow("write, call " + call, Check.STATE, () -> book.write(0, 0, 0, true));
        }
        Check.due("lines, the last call", book.lines(), 30);
        OutageBook causes = Books.withCauses(16);
        for (int call = 16; call < CALLS; call++) {
            Check.dueThrow("addCause, call " + call, Check.STATE, causes::addCause);
        }
    }

    private static void questionsUpToTheLastCall() {
        atMost512();
        OutageBook book = Books.withReadings(4, new int[12]);
        for (int call = 12; call < CALLS; call++) {
            Check.due("orders, call " + call, book.orders(), 479001600L);
        }
        OutageBook measured = new OutageBook();
        measured.measure(5, 0, 10000, 100);
        for (int call = 1; call < CALLS; call++) {
            Check.due("impact, call " + call, measured.impact(5), 1000100);
        }
    }
}
