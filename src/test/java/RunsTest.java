/**
 * All promises: runs of 512 calls, with arguments in and out of range, against PlainBook. The runs
 * are the same every time.
 */
final class RunsTest {
    private static final int RUNS = 1200;
    private static final int CALLS = 512;

    private static long seed = 1;

    private final OutageBook book = new OutageBook();
    private final PlainBook plain = new PlainBook();
    private final int[] offsets = new int[5];
    // How a run differs from others: how far readings spread, how often arguments are wrong.
    private final int spread;
    private final int wrongIn;
    private final int linesOften;
    private int run;

    private RunsTest(int run) {
        this.run = run;
        spread = new int[] {4, 30, 400, 9000}[run % 4];
        wrongIn = new int[] {6, 40, 1000}[run % 3];
        linesOften = run % 5;
        for (int clock = 1; clock < 5; clock++) {
            offsets[clock] = below(spread) - spread / 2;
        }
    }

    public static void main(String[] args) {
        for (int run = 0; run < RUNS && !Check.isWrong(); run++) {
            RunsTest one = new RunsTest(run);
            for (int call = 0; call < CALLS && !Check.isWrong(); call++) {
                one.step(call);
            }
        }
        Check.end("RunsTest");
    }

    private static int below(int bound) {
        seed = seed * 6364136223846793005L + 1442695040888963407L;
        return (int) ((seed >>> 33) % bound);
    }

    /** A number of a range, now and then one beside it or far off. */
    private int pick(int least, int most) {
        if (below(wrongIn * 3) == 0) {
            int[] wrong = {least - 1, most + 1, Integer.MIN_VALUE, Integer.MAX_VALUE, -1, 32};
            return wrong[below(wrong.length)];
        }
        return below(8) == 0 ? (below(2) == 0 ? least : most) : least + below(most - least + 1);
    }

    private int reading() {
        return below(wrongIn) == 0 ? pick(0, 10000) : 500 + below(spread);
    }

    private int line() {
        return pick(0, Math.max(0, plain.lines() - 1));
    }

    private int cause() {
        return pick(0, run % 2 == 0 ? 15 : 5);
    }

    private void same(String call, Check.Call got, Check.Call want) {
        Check.due("run " + run + ": " + call, Check.answer(got), Check.answer(want));
    }

    private void step(int call) {
        int kind = below(100);
        if (kind < 30) {
            tell(call);
        } else if (kind < 38) {
            askClocks();
        } else if (kind < 72) {
            askLines();
        } else if (kind < 76) {
            askImpact();
        } else {
            causes();
        }
    }

    private void tell(int call) {
        int kind = below(10);
        if (kind < 3) {
            mark();
        } else if (kind < 5 && (linesOften > 2 || plain.lines() < 9 || call > 400)) {
            write();
        } else if (kind < 8) {
            argue();
        } else {
            measure();
        }
    }

    private void mark() {
        int a = pick(0, 4);
        int b = pick(0, 4);
        int x = reading();
        int slack = below(3) == 0 ? pick(0, 1000) : below(spread / 2 + 1);
        int shift = a >= 0 && a < 5 && b >= 0 && b < 5 ? offsets[a] - offsets[b] : 0;
        int y = below(10) == 0 ? reading() : x + shift + below(2 * Math.abs(slack % 2000) + 2)
                - Math.abs(slack % 2000);
        same("mark(" + a + ", " + x + ", " + b + ", " + y + ", " + slack + ")", () -> {
            book.mark(a, x, b, y, slack);
            return "done";
        }, () -> {
            plain.mark(a, x, b, y, slack);
            return "done";
        });
    }

    private void write() {
        int clock = pick(0, 4);
        int x = reading();
        int service = pick(0, 5);
        boolean isPublic = below(3) > 0;
        same("write(" + clock + ", " + x + ", " + service + ", " + isPublic + ")",
                () -> book.write(clock, x, service, isPublic),
                () -> plain.write(clock, x, service, isPublic));
    }

    private void argue() {
        int line = line();
        int weight = below(2) == 0 ? 1 + below(3) : pick(1, 100);
        boolean isFor = below(2) == 0;
        same("argue(" + line + ", " + weight + ", " + isFor + ")",
                () -> book.argue(line, weight, isFor), () -> plain.argue(line, weight, isFor));
    }

    private void measure() {
        int service = pick(0, 5);
        int from = below(2) == 0 ? reading() : pick(0, 10000);
        int to = below(3) == 0 ? pick(0, 10000) : from + below(spread);
        int percent = pick(0, 100);
        same("measure(" + service + ", " + from + ", " + to + ", " + percent + ")",
                () -> book.measure(service, from, to, percent),
                () -> plain.measure(service, from, to, percent));
    }

    private void askClocks() {
        int a = pick(0, 4);
        int b = pick(0, 4);
        same("greatest(" + a + ", " + b + ")", () -> book.greatest(a, b), () -> plain.greatest(a, b));
    }

    private void askLines() {
        int one = line();
        int other = line();
        int service = pick(0, 5);
        switch (below(9)) {
            case 0 -> same("lines()", () -> book.lines(), () -> plain.lines());
            case 1 -> same("mustComeBefore(" + one + ", " + other + ")",
                    () -> book.mustComeBefore(one, other), () -> plain.mustComeBefore(one, other));
            case 2 -> same("lineAt(" + one + ")", () -> book.lineAt(one), () -> plain.lineAt(one));
            case 3 -> same("orders()", () -> book.orders(), () -> plain.orders());
            case 4 -> same("isDoubtful(" + one + ")",
                    () -> book.isDoubtful(one), () -> plain.isDoubtful(one));
            case 5 -> same("story()", () -> book.story(), () -> plain.story());
            case 6 -> same("storyAt(" + one + ")", () -> book.storyAt(one), () -> plain.storyAt(one));
            case 7 -> same("earliest(" + one + ")",
                    () -> book.earliest(one), () -> plain.earliest(one));
            default -> same("firstOf(" + service + ")",
                    () -> book.firstOf(service), () -> plain.firstOf(service));
        }
    }

    private void askImpact() {
        int service = pick(0, 5);
        if (below(3) == 0) {
            same("minutes()", () -> book.minutes(), () -> plain.minutes());
        } else {
            same("impact(" + service + ")", () -> book.impact(service), () -> plain.impact(service));
        }
    }

    private void causes() {
        int one = cause();
        int other = cause();
        int weight = below(3) == 0 ? 0 : below(2) == 0 ? 5 : pick(0, 100);
        boolean isStanding = below(3) > 0;
        switch (below(8)) {
            case 0 -> same("addCause()", () -> book.addCause(), () -> plain.addCause());
            case 1, 2, 3 -> same("argueReason(" + one + ", " + other + ", " + weight + ")",
                    () -> book.argueReason(one, other, weight),
                    () -> plain.argueReason(one, other, weight));
            case 4 -> same("setStanding(" + one + ", " + isStanding + ")",
                    () -> book.setStanding(one, isStanding),
                    () -> plain.setStanding(one, isStanding));
            case 5 -> same("mainReason(" + one + ")",
                    () -> book.mainReason(one), () -> plain.mainReason(one));
            default -> same("roots(" + one + ")", () -> book.roots(one), () -> plain.roots(one));
        }
    }
}
