/** Promises 15 to 17: measures, impact and minutes. */
final class ImpactTest {
    private ImpactTest() {
    }

    public static void main(String[] args) {
        numbers();
        measureArguments();
        fortyMeasures();
        overlaps();
        neighbours();
        nested();
        minutesOfServices();
        impactArguments();
        Check.end("ImpactTest");
    }

    private static void numbers() {
        OutageBook book = new OutageBook();
        Check.due("15: the first one", book.measure(5, 10000, 10000, 100), 0);
        Check.due("15: the second one", book.measure(0, 0, 0, 0), 1);
        Check.due("16: the last minute", book.impact(5), 100);
        Check.due("16: nothing failed", book.impact(0), 0);
        Check.due("17: one minute", book.minutes(), 1);
        book.measure(5, 0, 0, 1);
        Check.due("16: the first minute too", book.impact(5), 101);
        Check.due("17: the first minute too", book.minutes(), 2);
    }

    private static void measureArguments() {
        OutageBook book = new OutageBook();
        book.measure(0, 5, 6, 7);
        int[][] wrong = {
            {-1, 0, 0, 0}, {6, 0, 0, 0}, {0, -1, 0, 1}, {0, 10001, 10001, 1}, {0, 5, 4, 1},
            {0, 0, 10001, 1}, {0, 0, -1, 1}, {0, 0, 0, -1}, {0, 0, 0, 101},
            {Integer.MIN_VALUE, 0, 0, 0}, {0, Integer.MIN_VALUE, 0, 0},
            {0, 0, Integer.MAX_VALUE, 0}, {0, 0, 0, Integer.MAX_VALUE},
        };
        for (int[] w : wrong) {
            Told.unchanged(book, "15: measure " + java.util.Arrays.toString(w), Check.ARGUMENT,
                    () -> book.measure(w[0], w[1], w[2], w[3]));
        }
        Check.due("15: the next number", book.measure(0, 5, 5, 1), 1);
    }

    private static void fortyMeasures() {
        OutageBook book = new OutageBook();
        for (int measure = 0; measure < 40; measure++) {
            int from = measure * 20;
            int number = book.measure(3, from, from + 10, measure + 1);
            Check.due("15: measure " + measure, number, measure);
        }
        Told.unchanged(book, "15: one too many", Check.STATE, () -> book.measure(0, 0, 0, 0));
        Told.unchanged(book, "15: one too many, wrong", Check.ARGUMENT, () -> book.measure(6, 0, 0, 0));
        Check.due("16: forty apart", book.impact(3), 11 * 820);
        Check.due("17: forty apart", book.minutes(), 11 * 40);
    }

    private static void overlaps() {
        OutageBook book = new OutageBook();
        book.measure(2, 100, 199, 10);
        book.measure(2, 120, 139, 50);
        book.measure(2, 130, 149, 30);
        Check.due("16: the greatest ones", book.impact(2), 80 * 10 - 10 * 10 + 20 * 50 + 10 * 30);
        Check.due("17: every minute once", book.minutes(), 100);
        book.measure(2, 100, 199, 5);
        book.measure(2, 130, 149, 30);
        Check.due("16: lesser ones change nothing", book.impact(2), 2000);
        book.measure(2, 0, 10000, 100);
        Check.due("16: one above all", book.impact(2), 1000100);
        Check.due("16: another service", book.impact(1), 0);
    }

    private static void neighbours() {
        OutageBook book = new OutageBook();
        book.measure(0, 10, 19, 7);
        book.measure(0, 20, 20, 9);
        book.measure(0, 21, 30, 7);
        book.measure(0, 32, 32, 1);
        book.measure(0, 33, 40, 0);
        Check.due("16: side by side", book.impact(0), 70 + 9 + 70 + 1);
        Check.due("17: side by side", book.minutes(), 22);
    }

    private static void nested() {
        OutageBook wider = new OutageBook();
        OutageBook narrower = new OutageBook();
        for (int measure = 0; measure < 40; measure++) {
            wider.measure(4, 40 - measure, 9960 + measure, measure + 1);
            narrower.measure(4, 1 + measure, 9999 - measure, measure + 1);
        }
        Check.due("16: the widest is the highest", wider.impact(4), 40 * 9999);
        Check.due("17: the widest is the highest", wider.minutes(), 9999);
        int steps = 0;
        for (int percent = 1; percent < 40; percent++) {
            steps += 2 * percent;
        }
        Check.due("16: like steps", narrower.impact(4), steps + 40 * 9921);
        Check.due("17: like steps", narrower.minutes(), 9999);
    }

    private static void minutesOfServices() {
        OutageBook book = new OutageBook();
        book.measure(0, 10, 20, 1);
        book.measure(1, 15, 25, 1);
        book.measure(2, 0, 10000, 0);
        book.measure(5, 100, 100, 100);
        Check.due("17: each minute once", book.minutes(), 17);
        Check.due("16: each service alone", book.impact(1), 11);
        book.measure(2, 0, 10000, 1);
        Check.due("17: all", book.minutes(), 10001);
    }

    private static void impactArguments() {
        OutageBook book = new OutageBook();
        book.measure(0, 0, 0, 1);
        for (int service : new int[] {-1, 6, Integer.MIN_VALUE, Integer.MAX_VALUE}) {
            Told.unchanged(book, "16: no service", Check.ARGUMENT, () -> book.impact(service));
        }
    }
}
