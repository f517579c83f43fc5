import java.util.ArrayList;
import java.util.List;

/**
 * The terms of clocks and lines taken at their word: all offsets in reach are kept one by one and a
 * mark takes out those with which it does not hold; all orders are gone through one by one. Readings
 * of a book lie close together, so that no possible offset is out of reach.
 */
final class DefinitionTest {
    private static final int BOOKS = 300;
    private static final int CLOCKS = 5;
    // A mark here leaves two clocks at most APART from one another, and over all others SPAN.
    private static final int APART = 3;
    private static final int SPAN = APART * (CLOCKS - 1);
    private static final int UNBOUNDED = 1000000;
    private static final List<int[]> ALL = allOffsets();

    private static long seed = 7;

    private final OutageBook book = new OutageBook();
    private final List<int[]> lines = new ArrayList<>();
    private final int early;
    private List<int[]> possible = ALL;
    private int[][] greatest = new int[CLOCKS][CLOCKS];
    private boolean[][] areBound = new boolean[CLOCKS][CLOCKS];

    private DefinitionTest(int early) {
        this.early = early;
        for (int clock = 0; clock < CLOCKS; clock++) {
            areBound[clock][clock] = true;
        }
    }

    public static void main(String[] args) {
        int[] starts = {0, 4711, 10000 - 12};
        for (int number = 0; number < BOOKS; number++) {
            Check.about("book " + number);
            DefinitionTest one = new DefinitionTest(starts[number % 3]);
            for (int step = 0; step < 14; step++) {
                one.step();
            }
        }
        Check.end("DefinitionTest");
    }

    private static int below(int bound) {
        seed = seed * 6364136223846793005L + 1442695040888963407L;
        return (int) ((seed >>> 33) % bound);
    }

    private static List<int[]> allOffsets() {
        List<int[]> all = new ArrayList<>();
        int ways = 2 * SPAN + 1;
        for (int number = 0; number < ways * ways * ways * ways; number++) {
            int[] offsets = new int[CLOCKS];
            int rest = number;
            for (int clock = 1; clock < CLOCKS; clock++) {
                offsets[clock] = rest % ways - SPAN;
                rest /= ways;
            }
            all.add(offsets);
        }
        return all;
    }

    private void step() {
        if (lines.size() < 7 && below(2) == 0) {
            write();
        } else {
            mark();
        }
        dueClocks();
        dueLines();
        dueOrders();
    }

    private void write() {
        int[] line = {below(CLOCKS), early + below(13), below(6)};
        Check.due("write", book.write(line[0], line[1], line[2], true), lines.size());
        lines.add(line);
    }

    // ---- clocks

    private void mark() {
        int first = below(CLOCKS);
        int second = (first + 1 + below(CLOCKS - 1)) % CLOCKS;
        int a = early + below(3);
        int b = early + below(3);
        int slack = below(APART - 1);
        List<int[]> left = new ArrayList<>();
        for (int[] offsets : possible) {
            if (Math.abs(a + offsets[first] - b - offsets[second]) <= slack) {
                left.add(offsets);
            }
        }
        String want = left.isEmpty() ? "throws." + Check.STATE : "done";
        Check.due("mark(" + first + ", " + a + ", " + second + ", " + b + ", " + slack + ")",
                Check.answer(() -> Books.mark(book, first, a, second, b, slack)), want);
        if (!left.isEmpty()) {
            possible = left;
            bind(first, second);
            findGreatest();
        }
    }

    private void bind(int first, int second) {
        boolean[][] now = new boolean[CLOCKS][CLOCKS];
        for (int a = 0; a < CLOCKS; a++) {
            for (int b = 0; b < CLOCKS; b++) {
                now[a][b] = areBound[a][b] || areBound[a][first] && areBound[second][b]
                        || areBound[a][second] && areBound[first][b];
            }
        }
        areBound = now;
    }

    private void findGreatest() {
        greatest = new int[CLOCKS][CLOCKS];
        for (int a = 0; a < CLOCKS; a++) {
            for (int b = 0; b < CLOCKS; b++) {
                int most = Integer.MIN_VALUE;
                for (int[] offsets : possible) {
                    most = Math.max(most, offsets[a] - offsets[b]);
                }
                greatest[a][b] = most;
            }
        }
    }

    private void dueClocks() {
        for (int a = 0; a < CLOCKS; a++) {
            for (int b = 0; b < CLOCKS; b++) {
                int want = areBound[a][b] ? greatest[a][b] : UNBOUNDED;
                Check.due("greatest(" + a + ", " + b + ")", book.greatest(a, b), want);
            }
        }
    }

    // ---- lines

    private boolean isBefore(int line, int other) {
        int[] a = lines.get(line);
        int[] b = lines.get(other);
        return areBound[a[0]][b[0]] && a[1] - b[1] + greatest[a[0]][b[0]] < 0;
    }

    private void dueLines() {
        for (int line = 0; line < lines.size(); line++) {
            int clock = lines.get(line)[0];
            // The clock 0 has the offset 0: the least offset of another one is what 0 has not more.
            int want = areBound[0][clock] ? lines.get(line)[1] - greatest[0][clock] : -UNBOUNDED;
            Check.due("earliest(" + line + ")", book.earliest(line), want);
            for (int other = 0; other < lines.size(); other++) {
                Check.due("mustComeBefore(" + line + ", " + other + ")",
                        book.mustComeBefore(line, other), isBefore(line, other));
            }
        }
    }

    private void dueOrders() {
        List<Integer> told = told();
        String want = told.toString().replaceAll("[\\[\\],]", "");
        Check.due("the order", Books.order(book), want);
        Check.due("the story", Books.storyOf(book), want);
        Check.due("orders()", book.orders(), countOrders(new ArrayList<>()));
        for (int service = 0; service < 6; service++) {
            int first = OutageBook.NONE;
            for (int line : told) {
                first = first < 0 && lines.get(line)[2] == service ? line : first;
            }
            Check.due("firstOf(" + service + ")", book.firstOf(service), first);
        }
    }

    private List<Integer> told() {
        List<Integer> told = new ArrayList<>();
        while (told.size() < lines.size()) {
            int next = 0;
            while (told.contains(next) || mustWait(next, told)) {
                next++;
            }
            told.add(next);
        }
        return told;
    }

    private boolean mustWait(int line, List<Integer> told) {
        for (int other = 0; other < lines.size(); other++) {
            if (!told.contains(other) && isBefore(other, line)) {
                return true;
            }
        }
        return false;
    }

    private long countOrders(List<Integer> begun) {
        if (begun.size() == lines.size()) {
            return isOrder(begun) ? 1 : 0;
        }
        long count = 0;
        for (int line = 0; line < lines.size(); line++) {
            if (!begun.contains(line)) {
                begun.add(line);
                count += countOrders(begun);
                begun.remove(begun.size() - 1);
            }
        }
        return count;
    }

    private boolean isOrder(List<Integer> order) {
        for (int place = 0; place < order.size(); place++) {
            for (int behind = place + 1; behind < order.size(); behind++) {
                if (isBefore(order.get(behind), order.get(place))) {
                    return false;
                }
            }
        }
        return true;
    }
}
