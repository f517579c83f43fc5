/**
 * A book of an outage: clocks that are off, lines in the order that is told, impact, causes and a
 * story for outsiders.
 *
 * The public methods look at the arguments and throw; the classes inside hold what was told and
 * answer questions without ever throwing.
 */
public final class OutageBook {
    public static final int NONE = -1;
    public static final int UNBOUNDED = 1000000;

    private static final int CLOCKS = 5;
    private static final int TRUE_CLOCK = 0;
    private static final int GREATEST_READING = 10000;
    private static final int GREATEST_SLACK = 1000;
    private static final int SERVICES = 6;
    private static final int ANY_SERVICE = -1;
    private static final int MOST_LINES = 30;
    private static final int MOST_LINES_TO_ORDER = 12;
    private static final int MOST_MEASURES = 40;
    private static final int LAST_MINUTE = 10000;
    private static final int WHOLE_PERCENT = 100;
    private static final int MOST_CAUSES = 16;
    private static final int GREATEST_WEIGHT = 100;

    private final Offsets offsets = new Offsets();
    private final Log log = new Log();
    private final Measures measures = new Measures();
    private final Causes causes = new Causes();

    public OutageBook() {
    }

    // ---- clocks

    public void mark(int first, int firstReading, int second, int secondReading, int slack)
            throws IllegalArgumentException, IllegalStateException {
        if (!isClock(first) || !isClock(second) || first == second) {
            throw new IllegalArgumentException("a mark needs two different clocks");
        }
        if (!isReading(firstReading) || !isReading(secondReading)) {
            throw new IllegalArgumentException("no such reading");
        }
        if (!isWithin(slack, 0, GREATEST_SLACK)) {
            throw new IllegalArgumentException("no such slack");
        }
        int middle = secondReading - firstReading;
        if (!offsets.allows(first, second, middle + slack)
                || !offsets.allows(second, first, slack - middle)) {
            throw new IllegalStateException("no values would be possible");
        }
        offsets.bound(first, second, middle + slack);
        offsets.bound(second, first, slack - middle);
        log.arrange(offsets);
    }

    public int greatest(int clock, int other) throws IllegalArgumentException {
        if (!isClock(clock) || !isClock(other)) {
            throw new IllegalArgumentException("no such clock");
        }
        return offsets.most(clock, other);
    }

    // ---- lines

    public int write(int clock, int reading, int service, boolean isPublic)
            throws IllegalArgumentException, IllegalStateException {
        if (!isClock(clock) || !isReading(reading) || !isService(service)) {
            throw new IllegalArgumentException("no such clock, reading or service");
        }
        if (log.size() >= MOST_LINES) {
            throw new IllegalStateException("no room for a line");
        }
        int line = log.add(clock, reading, service, isPublic);
        log.arrange(offsets);
        return line;
    }

    public int lines() {
        return log.size();
    }

    public boolean mustComeBefore(int line, int other) throws IndexOutOfBoundsException {
        if (!log.holds(line) || !log.holds(other)) {
            throw new IndexOutOfBoundsException("no such line");
        }
        return log.isBefore(line, other);
    }

    public int lineAt(int place) throws IndexOutOfBoundsException {
        if (!log.holds(place)) {
            throw new IndexOutOfBoundsException("no such place");
        }
        return log.at(place);
    }

    public long orders() throws IllegalStateException {
        if (log.size() > MOST_LINES_TO_ORDER) {
            throw new IllegalStateException("too many lines");
        }
        return log.countOrders();
    }

    public int argue(int line, int weight, boolean isFor)
            throws IndexOutOfBoundsException, IllegalArgumentException {
        if (!log.holds(line)) {
            throw new IndexOutOfBoundsException("no such line");
        }
        if (!isWithin(weight, 1, GREATEST_WEIGHT)) {
            throw new IllegalArgumentException("no such weight");
        }
        return log.weigh(line, isFor ? weight : -weight);
    }

    public boolean isDoubtful(int line) throws IndexOutOfBoundsException {
        if (!log.holds(line)) {
            throw new IndexOutOfBoundsException("no such line");
        }
        return log.isDoubted(line);
    }

    public int story() {
        return log.storySize();
    }

    public int storyAt(int place) throws IndexOutOfBoundsException {
        int line = log.storyLine(place);
        if (line == NONE) {
            throw new IndexOutOfBoundsException("no such place");
        }
        return line;
    }

    public int earliest(int line) throws IndexOutOfBoundsException {
        if (!log.holds(line)) {
            throw new IndexOutOfBoundsException("no such line");
        }
        return log.earliestTime(line, offsets);
    }

    public int firstOf(int service) throws IllegalArgumentException {
        if (!isService(service)) {
            throw new IllegalArgumentException("no such service");
        }
        return log.firstLine(service);
    }

    // ---- impact

    public int measure(int service, int from, int to, int percent)
            throws IllegalArgumentException, IllegalStateException {
        if (!isService(service) || !isWithin(percent, 0, WHOLE_PERCENT)) {
            throw new IllegalArgumentException("no such service or percentage");
        }
        if (!isWithin(from, 0, LAST_MINUTE) || !isWithin(to, from, LAST_MINUTE)) {
            throw new IllegalArgumentException("no such minutes");
        }
        if (measures.size() >= MOST_MEASURES) {
            throw new IllegalStateException("no room for a measure");
        }
        return measures.add(service, from, to, percent);
    }

    public int impact(int service) throws IllegalArgumentException {
        if (!isService(service)) {
            throw new IllegalArgumentException("no such service");
        }
        return measures.sumOfWorst(service);
    }

    public int minutes() {
        return measures.failedMinutes();
    }

    // ---- causes

    public int addCause() throws IllegalStateException {
        if (causes.size() >= MOST_CAUSES) {
            throw new IllegalStateException("no room for a cause");
        }
        return causes.add();
    }

    public int argueReason(int cause, int reason, int weight)
            throws IndexOutOfBoundsException, IllegalArgumentException, IllegalStateException {
        if (!causes.holds(cause) || !causes.holds(reason)) {
            throw new IndexOutOfBoundsException("no such cause");
        }
        if (cause == reason || !isWithin(weight, 0, GREATEST_WEIGHT)) {
            throw new IllegalArgumentException("no such weight, or one cause twice");
        }
        if (weight > 0 && causes.isBecauseOf(reason, cause)) {
            throw new IllegalStateException("the reason is because of the cause");
        }
        return causes.replaceWeight(cause, reason, weight);
    }

    public boolean setStanding(int cause, boolean isStanding) throws IndexOutOfBoundsException {
        if (!causes.holds(cause)) {
            throw new IndexOutOfBoundsException("no such cause");
        }
        return causes.replaceStanding(cause, isStanding);
    }

    public int roots(int cause) throws IndexOutOfBoundsException {
        if (!causes.holds(cause)) {
            throw new IndexOutOfBoundsException("no such cause");
        }
        return causes.rootsUnder(cause);
    }

    public int mainReason(int cause) throws IndexOutOfBoundsException {
        if (!causes.holds(cause)) {
            throw new IndexOutOfBoundsException("no such cause");
        }
        return causes.weightiestReason(cause);
    }

    // ---- ranges and sets of bits

    private static boolean isWithin(int value, int least, int most) {
        return value >= least && value <= most;
    }

    private static boolean isClock(int clock) {
        return isWithin(clock, 0, CLOCKS - 1);
    }

    private static boolean isReading(int reading) {
        return isWithin(reading, 0, GREATEST_READING);
    }

    private static boolean isService(int service) {
        return isWithin(service, 0, SERVICES - 1);
    }

    private static int bit(int number) {
        return 1 << number;
    }

    private static boolean hasBit(int set, int number) {
        return (set & bit(number)) != 0;
    }

    /** What the marks leave possible for the offsets of the clocks. */
    private static final class Offsets {
        // Always as tight as all marks together make it, so that an answer is a look into it.
        private final int[][] differences = new int[CLOCKS][CLOCKS];

        Offsets() {
            for (int clock = 0; clock < CLOCKS; clock++) {
                for (int other = 0; other < CLOCKS; other++) {
                    differences[clock][other] = clock == other ? 0 : UNBOUNDED;
                }
            }
        }

        /** The greatest possible offset of the clock less that of the other one. */
        int most(int clock, int other) {
            if (!isClock(clock) || !isClock(other)) {
                return UNBOUNDED;
            }
            return differences[clock][other];
        }

        /** Whether the offset of the clock less that of the other one may be held to a bound. */
        boolean allows(int clock, int other, int bound) {
            return -bound <= most(other, clock);
        }

        /** Holds the offset of the clock less that of the other one to a bound that is allowed. */
        void bound(int clock, int other, int bound) {
            for (int from = 0; from < CLOCKS; from++) {
                for (int to = 0; to < CLOCKS; to++) {
                    int ahead = most(from, clock);
                    int behind = most(other, to);
                    if (ahead < UNBOUNDED && behind < UNBOUNDED) {
                        int over = ahead + bound + behind;
                        differences[from][to] = Math.min(differences[from][to], over);
                    }
                }
            }
        }
    }

    /** The lines, what must come before what, and the order that is told. */
    private static final class Log {
        private final int[] clocks = new int[MOST_LINES];
        private final int[] readings = new int[MOST_LINES];
        private final int[] services = new int[MOST_LINES];
        private final boolean[] arePublic = new boolean[MOST_LINES];
        // The weight for a line less the weight against it: nothing asks for one of them alone.
        private final int[] balances = new int[MOST_LINES];
        // For each line the set of those that must come before it.
        private final int[] before = new int[MOST_LINES];
        private final int[] order = new int[MOST_LINES];
        // For each set of lines the number of orders that begin with it; made once, used again.
        private final long[] beginnings = new long[1 << MOST_LINES_TO_ORDER];
        private int count = 0;

        int size() {
            return count;
        }

        boolean holds(int line) {
            return line >= 0 && line < count && line < MOST_LINES;
        }

        int add(int clock, int reading, int service, boolean isPublic) {
            int line = count;
            if (line >= MOST_LINES) {
                return NONE;
            }
            clocks[line] = clock;
            readings[line] = reading;
            services[line] = service;
            arePublic[line] = isPublic;
            count = line + 1;
            return line;
        }

        boolean isBefore(int line, int other) {
            return holds(other) && hasBit(before[other], line);
        }

        int at(int place) {
            return holds(place) ? order[place] : NONE;
        }

        int weigh(int line, int weight) {
            if (!holds(line)) {
                return 0;
            }
            balances[line] += weight;
            return balances[line];
        }

        boolean isDoubted(int line) {
            return holds(line) && balances[line] < 0;
        }

        int earliestTime(int line, Offsets offsets) {
            if (!holds(line)) {
                return -UNBOUNDED;
            }
            int lag = offsets.most(TRUE_CLOCK, clocks[line]);
            return lag < UNBOUNDED ? readings[line] - lag : -UNBOUNDED;
        }

        int firstLine(int service) {
            for (int place = 0; place < count; place++) {
                int line = at(place);
                if (holds(line) && services[line] == service) {
                    return line;
                }
            }
            return NONE;
        }

        int storySize() {
            int size = 0;
            for (int place = 0; place < count; place++) {
                if (isInStory(at(place))) {
                    size++;
                }
            }
            return size;
        }

        /** The line at a place of the story; NONE if there is no such place. */
        int storyLine(int wanted) {
            int passed = 0;
            for (int place = 0; place < count; place++) {
                int line = at(place);
                if (isInStory(line)) {
                    if (passed == wanted) {
                        return line;
                    }
                    passed++;
                }
            }
            return NONE;
        }

        private boolean isInStory(int line) {
            return holds(line) && arePublic[line] && balances[line] >= 0;
        }

        /** Finds anew what must come before what, and the order that is told. */
        void arrange(Offsets offsets) {
            for (int line = 0; line < count && line < MOST_LINES; line++) {
                before[line] = allBefore(line, offsets);
            }
            int left = bit(count) - 1;
            for (int place = 0; place < count && place < MOST_LINES; place++) {
                order[place] = nextLine(left);
                left &= ~bit(order[place]);
            }
        }

        private int allBefore(int other, Offsets offsets) {
            int all = 0;
            for (int line = 0; line < count; line++) {
                if (isSurelyEarlier(line, other, offsets)) {
                    all |= bit(line);
                }
            }
            return all;
        }

        private boolean isSurelyEarlier(int line, int other, Offsets offsets) {
            if (!holds(line) || !holds(other)) {
                return false;
            }
            int most = offsets.most(clocks[line], clocks[other]);
            return most < UNBOUNDED && readings[line] + most < readings[other];
        }

        private int nextLine(int left) {
            for (int line = 0; line < count && line < MOST_LINES; line++) {
                if (hasBit(left, line) && (before[line] & left) == 0) {
                    return line;
                }
            }
            return NONE;
        }

        /** Counts over all sets of lines, from the smaller ones to that of all lines. */
        long countOrders() {
            int all = bit(count) - 1;
            long found = 1;
            beginnings[0] = found;
            for (int taken = 1; taken <= all && taken < beginnings.length; taken++) {
                found = countBeginnings(taken);
                beginnings[taken] = found;
            }
            return found;
        }

        private long countBeginnings(int taken) {
            long found = 0;
            for (int line = 0; line < count && line < MOST_LINES_TO_ORDER; line++) {
                int rest = taken & ~bit(line);
                boolean canBeLast = rest != taken && (before[line] & ~rest) == 0;
                if (canBeLast && rest >= 0 && rest < beginnings.length) {
                    found += beginnings[rest];
                }
            }
            return found;
        }
    }

    /** The measures, and what they add up to. */
    private static final class Measures {
        private final int[] services = new int[MOST_MEASURES];
        private final int[] starts = new int[MOST_MEASURES];
        private final int[] ends = new int[MOST_MEASURES];
        private final int[] percents = new int[MOST_MEASURES];
        private int count = 0;

        int size() {
            return count;
        }

        int add(int service, int from, int to, int percent) {
            int measure = count;
            if (measure >= MOST_MEASURES) {
                return NONE;
            }
            services[measure] = service;
            starts[measure] = from;
            ends[measure] = to;
            percents[measure] = percent;
            count = measure + 1;
            return measure;
        }

        // Both sums go from change to change: n measures change at most 2n times, and between two
        // changes all minutes are alike.

        int sumOfWorst(int service) {
            int sum = 0;
            int minute = 0;
            for (int change = 0; change <= 2 * count; change++) {
                int next = nextChange(minute);
                sum += (next - minute) * worst(service, minute);
                minute = next;
            }
            return sum;
        }

        int failedMinutes() {
            int failed = 0;
            int minute = 0;
            for (int change = 0; change <= 2 * count; change++) {
                int next = nextChange(minute);
                if (worst(ANY_SERVICE, minute) > 0) {
                    failed += next - minute;
                }
                minute = next;
            }
            return failed;
        }

        /** The first later minute at which a measure begins or is over, or the end of all minutes. */
        private int nextChange(int minute) {
            int next = LAST_MINUTE + 1;
            for (int measure = 0; measure < count && measure < MOST_MEASURES; measure++) {
                int over = ends[measure] + 1;
                if (starts[measure] > minute) {
                    next = Math.min(next, starts[measure]);
                } else if (over > minute) {
                    next = Math.min(next, over);
                }
            }
            return next;
        }

        private int worst(int service, int minute) {
            int worst = 0;
            for (int measure = 0; measure < count && measure < MOST_MEASURES; measure++) {
                boolean isMeant = service == ANY_SERVICE || services[measure] == service;
                if (isMeant && isWithin(minute, starts[measure], ends[measure])) {
                    worst = Math.max(worst, percents[measure]);
                }
            }
            return worst;
        }
    }

    /** The causes, which of them stand, and what is because of what. */
    private static final class Causes {
        // The weight with which a cause (first index) is because of another one; 0 if it is not.
        private final int[][] weights = new int[MOST_CAUSES][MOST_CAUSES];
        private int standing = 0;
        private int count = 0;

        int size() {
            return count;
        }

        boolean holds(int cause) {
            return cause >= 0 && cause < count && cause < MOST_CAUSES;
        }

        int add() {
            int cause = count;
            if (cause >= MOST_CAUSES) {
                return NONE;
            }
            standing |= bit(cause);
            count = cause + 1;
            return cause;
        }

        int replaceWeight(int cause, int reason, int weight) {
            if (!holds(cause) || !holds(reason)) {
                return 0;
            }
            int old = weights[cause][reason];
            weights[cause][reason] = weight;
            return old;
        }

        boolean replaceStanding(int cause, boolean isStanding) {
            boolean stood = hasBit(standing, cause);
            if (isStanding) {
                standing |= bit(cause);
            } else {
                standing &= ~bit(cause);
            }
            return stood;
        }

        boolean isBecauseOf(int cause, int other) {
            return hasBit(reach(cause, bit(count) - 1), other);
        }

        int rootsUnder(int cause) {
            if (!hasBit(standing, cause)) {
                return 0;
            }
            int reached = reach(cause, standing);
            int roots = 0;
            for (int root = 0; root < count; root++) {
                if (hasBit(reached, root) && (reasonsOf(root) & standing) == 0) {
                    roots |= bit(root);
                }
            }
            return roots;
        }

        int weightiestReason(int cause) {
            int best = NONE;
            int bestWeight = 0;
            for (int reason = 0; reason < count; reason++) {
                int weight = weight(cause, reason);
                if (hasBit(standing, reason) && weight > bestWeight) {
                    best = reason;
                    bestWeight = weight;
                }
            }
            return best;
        }

        /** The cause itself and all that it is because of, over those alone that are among a set. */
        private int reach(int cause, int among) {
            int reached = bit(cause);
            for (int round = 0; round < count; round++) {
                for (int one = 0; one < count; one++) {
                    if (hasBit(reached, one)) {
                        reached |= reasonsOf(one) & among;
                    }
                }
            }
            return reached;
        }

        private int reasonsOf(int cause) {
            int reasons = 0;
            for (int reason = 0; reason < count; reason++) {
                if (weight(cause, reason) > 0) {
                    reasons |= bit(reason);
                }
            }
            return reasons;
        }

        private int weight(int cause, int reason) {
            return holds(cause) && holds(reason) ? weights[cause][reason] : 0;
        }
    }
}
