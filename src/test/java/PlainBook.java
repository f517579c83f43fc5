import java.util.ArrayList;
import java.util.List;

/**
 * The document once more, in the plainest way: it keeps only what was told and works out every
 * answer from that anew. RunsTest compares the program with it.
 */
final class PlainBook {
    private static final long FAR = 1L << 40;

    private final List<int[]> marks = new ArrayList<>();
    private final List<int[]> lines = new ArrayList<>();
    private final List<Boolean> arePublic = new ArrayList<>();
    private final List<int[]> weights = new ArrayList<>();
    private final List<int[]> measures = new ArrayList<>();
    private final List<Boolean> stand = new ArrayList<>();
    private final List<int[]> reasons = new ArrayList<>();

    private static void need(boolean holds) {
        if (!holds) {
            throw new IllegalArgumentException();
        }
    }

    private static void needState(boolean holds) {
        if (!holds) {
            throw new IllegalStateException();
        }
    }

    private static void needIndex(int index, int size) {
        if (index < 0 || index >= size) {
            throw new IndexOutOfBoundsException();
        }
    }

    private static boolean in(int value, int least, int most) {
        return least <= value && value <= most;
    }

    // ---- clocks

    void mark(int first, int firstReading, int second, int secondReading, int slack) {
        need(in(first, 0, 4) && in(second, 0, 4) && first != second);
        need(in(firstReading, 0, 10000) && in(secondReading, 0, 10000) && in(slack, 0, 1000));
        marks.add(new int[] {first, firstReading, second, secondReading, slack});
        long[][] most = differences();
        for (int clock = 0; clock < 5; clock++) {
            if (most[clock][clock] < 0) {
                marks.remove(marks.size() - 1);
                throw new IllegalStateException();
            }
        }
    }

    /** Paths over all marks, found with no help of what was found before. */
    private long[][] differences() {
        long[][] most = new long[5][5];
        for (int a = 0; a < 5; a++) {
            for (int b = 0; b < 5; b++) {
                most[a][b] = a == b ? 0 : FAR;
            }
        }
        for (int[] m : marks) {
            most[m[0]][m[2]] = Math.min(most[m[0]][m[2]], m[3] - m[1] + m[4]);
            most[m[2]][m[0]] = Math.min(most[m[2]][m[0]], m[1] - m[3] + m[4]);
        }
        for (int via = 0; via < 5; via++) {
            for (int a = 0; a < 5; a++) {
                for (int b = 0; b < 5; b++) {
                    if (most[a][via] < FAR && most[via][b] < FAR) {
                        most[a][b] = Math.min(most[a][b], most[a][via] + most[via][b]);
                    }
                }
            }
        }
        return most;
    }

    int greatest(int clock, int other) {
        need(in(clock, 0, 4) && in(other, 0, 4));
        long most = differences()[clock][other];
        return most == FAR ? 1000000 : (int) most;
    }

    // ---- lines

    int write(int clock, int reading, int service, boolean isPublic) {
        need(in(clock, 0, 4) && in(reading, 0, 10000) && in(service, 0, 5));
        needState(lines.size() < 30);
        lines.add(new int[] {clock, reading, service});
        arePublic.add(isPublic);
        weights.add(new int[2]);
        return lines.size() - 1;
    }

    int lines() {
        return lines.size();
    }

    boolean mustComeBefore(int line, int other) {
        needIndex(line, lines.size());
        needIndex(other, lines.size());
        int[] a = lines.get(line);
        int[] b = lines.get(other);
        long most = differences()[a[0]][b[0]];
        return most != FAR && a[1] + most - b[1] < 0;
    }

    private boolean[][] befores() {
        boolean[][] before = new boolean[lines.size()][lines.size()];
        long[][] most = differences();
        for (int a = 0; a < lines.size(); a++) {
            for (int b = 0; b < lines.size(); b++) {
                long ahead = most[lines.get(a)[0]][lines.get(b)[0]];
                before[a][b] = ahead != FAR && lines.get(a)[1] + ahead < lines.get(b)[1];
            }
        }
        return before;
    }

    private List<Integer> order() {
        boolean[][] before = befores();
        List<Integer> left = new ArrayList<>();
        for (int line = 0; line < lines.size(); line++) {
            left.add(line);
        }
        List<Integer> order = new ArrayList<>();
        while (!left.isEmpty()) {
            int taken = -1;
            for (int at = left.size() - 1; at >= 0; at--) {
                boolean isFree = true;
                for (int other : left) {
                    isFree &= !before[other][left.get(at)];
                }
                taken = isFree ? at : taken;
            }
            order.add(left.remove(taken));
        }
        return order;
    }

    int lineAt(int place) {
        needIndex(place, lines.size());
        return order().get(place);
    }

    long orders() {
        needState(lines.size() <= 12);
        return ordersFrom(0, befores(), new java.util.HashMap<>());
    }

    private long ordersFrom(int taken, boolean[][] before, java.util.Map<Integer, Long> known) {
        if (taken == (1 << lines.size()) - 1) {
            return 1;
        }
        Long found = known.get(taken);
        if (found != null) {
            return found;
        }
        long sum = 0;
        for (int line = 0; line < lines.size(); line++) {
            boolean isFree = (taken >> line & 1) == 0;
            for (int other = 0; other < lines.size(); other++) {
                isFree &= (taken >> other & 1) == 1 || !before[other][line];
            }
            if (isFree) {
                sum += ordersFrom(taken | 1 << line, before, known);
            }
        }
        known.put(taken, sum);
        return sum;
    }

    int argue(int line, int weight, boolean isFor) {
        needIndex(line, lines.size());
        need(in(weight, 1, 100));
        int[] both = weights.get(line);
        both[isFor ? 0 : 1] += weight;
        return both[0] - both[1];
    }

    boolean isDoubtful(int line) {
        needIndex(line, lines.size());
        return weights.get(line)[1] > weights.get(line)[0];
    }

    private List<Integer> told() {
        List<Integer> told = order();
        told.removeIf(line -> !arePublic.get(line) || isDoubtful(line));
        return told;
    }

    int story() {
        return told().size();
    }

    int storyAt(int place) {
        List<Integer> told = told();
        needIndex(place, told.size());
        return told.get(place);
    }

    int earliest(int line) {
        needIndex(line, lines.size());
        long most = differences()[0][lines.get(line)[0]];
        return most == FAR ? -1000000 : (int) (lines.get(line)[1] - most);
    }

    int firstOf(int service) {
        need(in(service, 0, 5));
        for (int line : order()) {
            if (lines.get(line)[2] == service) {
                return line;
            }
        }
        return -1;
    }

    // ---- impact

    int measure(int service, int from, int to, int percent) {
        need(in(service, 0, 5) && in(from, 0, 10000) && in(to, from, 10000) && in(percent, 0, 100));
        needState(measures.size() < 40);
        measures.add(new int[] {service, from, to, percent});
        return measures.size() - 1;
    }

    private int[] percents(int service) {
        int[] percents = new int[10001];
        for (int[] m : measures) {
            for (int minute = m[1]; m[0] == service && minute <= m[2]; minute++) {
                percents[minute] = Math.max(percents[minute], m[3]);
            }
        }
        return percents;
    }

    int impact(int service) {
        need(in(service, 0, 5));
        int sum = 0;
        for (int percent : percents(service)) {
            sum += percent;
        }
        return sum;
    }

    int minutes() {
        boolean[] failed = new boolean[10001];
        for (int service = 0; service < 6; service++) {
            int[] percents = percents(service);
            for (int minute = 0; minute <= 10000; minute++) {
                failed[minute] |= percents[minute] > 0;
            }
        }
        int count = 0;
        for (boolean one : failed) {
            count += one ? 1 : 0;
        }
        return count;
    }

    // ---- causes

    int addCause() {
        needState(stand.size() < 16);
        stand.add(true);
        return stand.size() - 1;
    }

    int argueReason(int cause, int reason, int weight) {
        needIndex(cause, stand.size());
        needIndex(reason, stand.size());
        need(in(weight, 0, 100) && cause != reason);
        needState(weight == 0 || !isBecauseOf(reason, cause));
        int old = 0;
        for (int at = reasons.size() - 1; at >= 0; at--) {
            int[] told = reasons.get(at);
            if (told[0] == cause && told[1] == reason) {
                old = told[2];
                reasons.remove(at);
            }
        }
        if (weight > 0) {
            reasons.add(new int[] {cause, reason, weight});
        }
        return old;
    }

    private boolean isBecauseOf(int cause, int other) {
        for (int[] told : reasons) {
            if (told[0] == cause && (told[1] == other || isBecauseOf(told[1], other))) {
                return true;
            }
        }
        return false;
    }

    boolean setStanding(int cause, boolean isStanding) {
        needIndex(cause, stand.size());
        return stand.set(cause, isStanding);
    }

    int roots(int cause) {
        needIndex(cause, stand.size());
        if (!stand.get(cause)) {
            return 0;
        }
        int roots = 0;
        for (int[] told : reasons) {
            if (told[0] == cause && stand.get(told[1])) {
                roots |= roots(told[1]);
            }
        }
        return roots == 0 ? 1 << cause : roots;
    }

    int mainReason(int cause) {
        needIndex(cause, stand.size());
        int best = -1;
        int bestWeight = 0;
        for (int[] told : reasons) {
            boolean isBetter = told[2] > bestWeight || told[2] == bestWeight && told[1] < best;
            if (told[0] == cause && stand.get(told[1]) && isBetter) {
                best = told[1];
                bestWeight = told[2];
            }
        }
        return best;
    }
}
