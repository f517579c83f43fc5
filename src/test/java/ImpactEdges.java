/** The edges of measures and impact: promises 15 to 17. */
final class ImpactEdges {
    private static final String IMPACT = "The impact of a service is the sum, over all minutes, of the greatest"
            + " percentage that measures tell for this minute.";
    private static final String INCLUDED = "A measure tells for a service that from a minute to another one,"
            + " included, some percent of it failed.";
    private static final String MINUTES = "Returns the number of minutes in which some percentage above 0 of some"
            + " service failed.";

    private ImpactEdges() {
    }

    static void test() {
        noMeasure();
        fortyMeasures();
        fromIsTo();
        minutesAtTheirEnds();
        percentsAtTheirEnds();
        wrongRanges();
        twoMeasuresInAllWays();
        oneServiceAndSeveral();
        fortyInOneAnother();
        fortySideBySide();
        servicesAtTheirEnds();
    }

    private static void noMeasure() {
        Document.about("Impact", IMPACT);
        OutageBook book = new OutageBook();
        for (int service = 0; service < 6; service++) {
            Check.due("no measure", book.impact(service), 0);
        }
        Document.about("17", MINUTES);
        Check.due("no measure", book.minutes(), 0);
        book.write(0, 0, 0, true);
        Check.due("a line is no measure", book.minutes(), 0);
    }

    private static void fortyMeasures() {
        Document.about("Impact", "Measures are numbered from 0; there are at most 40.");
        OutageBook book = new OutageBook();
        for (int measure = 0; measure < 40; measure++) {
            int number = book.measure(measure % 6, measure, measure, 1 + measure % 2);
            Check.due("the number", number, measure);
        }
        Document.about("15", "Tells a measure.");
        Check.due("the last one counts", book.minutes(), 40);
        Check.due("the last one counts", book.impact(39 % 6), 2 * 7 - 14 % 2);
        Document.about("15", "Returns its number.");
        Check.due("the first one", new OutageBook().measure(5, 10000, 10000, 100), 0);
        OutageBook second = new OutageBook();
        second.measure(0, 0, 0, 0);
        Check.due("the second one", second.measure(0, 0, 0, 0), 1);
        Document.about("15", "Throws `IllegalStateException` if there are 40");
        Told.unchanged(book, "one more", Check.STATE, () -> book.measure(0, 0, 10000, 100));
        Told.unchanged(book, "one more that tells nothing", Check.STATE, () -> book.measure(5, 10000, 10000, 0));
    }

    private static void fromIsTo() {
        Document.about("Impact", INCLUDED);
        for (int minute = 0; minute <= 10000; minute += 2500) {
            OutageBook book = new OutageBook();
            book.measure(3, minute, minute, 40);
            Check.due("one minute", book.minutes(), 1);
            Check.due("one minute", book.impact(3), 40);
        }
        OutageBook two = new OutageBook();
        two.measure(3, 7, 8, 40);
        Check.due("two minutes", two.minutes(), 2);
        Check.due("two minutes", two.impact(3), 80);
    }

    private static void minutesAtTheirEnds() {
        Document.about("Impact", IMPACT);
        OutageBook book = new OutageBook();
        book.measure(1, 0, 0, 3);
        book.measure(1, 10000, 10000, 5);
        Check.due("the first and the last", book.impact(1), 8);
        Check.due("the first and the last", book.minutes(), 2);
        book.measure(1, 0, 9999, 4);
        Check.due("all but the last", book.impact(1), 10000 * 4 + 5);
        book.measure(1, 1, 10000, 6);
        Check.due("all but the first", book.impact(1), 4 + 10000 * 6);
        book.measure(1, 0, 10000, 100);
        Check.due("all", book.impact(1), 1000100);
        Document.about("17", MINUTES);
        Check.due("all", book.minutes(), 10001);
    }

    private static void percentsAtTheirEnds() {
        Document.about("17", MINUTES);
        OutageBook book = new OutageBook();
        book.measure(2, 0, 10000, 0);
        Check.due("0 percent of all minutes", book.minutes(), 0);
        Check.due("0 percent of all minutes", book.impact(2), 0);
        book.measure(2, 10, 19, 1);
        Check.due("1 percent", book.minutes(), 10);
        book.measure(2, 10, 19, 0);
        Check.due("0 percent after it", book.minutes(), 10);
        Check.due("0 percent after it", book.impact(2), 10);
        book.measure(4, 20, 29, 100);
        Check.due("100 percent", book.minutes(), 20);
        Check.due("100 percent", book.impact(4), 1000);
        book.measure(4, 20, 29, 100);
        Check.due("100 percent twice", book.impact(4), 1000);
    }

    private static void wrongRanges() {
        Document.about("15", "Throws `IllegalArgumentException` if an argument is out of range");
        for (Books.Made books : Books.ALL) {
            OutageBook book = books.make();
            int[][] wrongs = {
                {1, 0}, {-1, -1}, {-1, 0}, {-1, 10001}, {10001, 10001}, {10000, 10001}, {10000, 9999},
                {0, -1}, {0, Integer.MAX_VALUE}, {Integer.MIN_VALUE, Integer.MAX_VALUE},
                {Integer.MAX_VALUE, Integer.MAX_VALUE}, {Integer.MIN_VALUE, Integer.MIN_VALUE},
            };
            for (int[] w : wrongs) {
                Told.unchanged(book, w[0] + " to " + w[1], Check.ARGUMENT, () -> book.measure(0, w[0], w[1], 5));
            }
        }
    }

    /** Within four minutes, at either end: apart, meeting, overlapping, in one another, the same. */
    private static void twoMeasuresInAllWays() {
        Document.about("Impact", IMPACT);
        int[] percents = {0, 1, 99, 100};
        for (int way = 0; way < 256; way++) {
            int[] ends = {way & 3, way >> 2 & 3, way >> 4 & 3, way >> 6 & 3};
            for (int both = 0; both < 16 && ends[0] <= ends[1] && ends[2] <= ends[3]; both++) {
                int first = percents[both % 4];
                int second = percents[both / 4];
                twoMeasures(ends, 0, first, second);
                twoMeasures(ends, 5000, first, second);
                twoMeasures(ends, 9997, first, second);
            }
        }
    }

    private static void twoMeasures(int[] ends, int start, int first, int second) {
        OutageBook one = new OutageBook();
        one.measure(0, start + ends[0], start + ends[1], first);
        one.measure(0, start + ends[2], start + ends[3], second);
        OutageBook two = new OutageBook();
        two.measure(0, start + ends[0], start + ends[1], first);
        two.measure(5, start + ends[2], start + ends[3], second);
        int greatest = 0;
        int failed = 0;
        for (int minute = 0; minute < 4; minute++) {
            int a = minute >= ends[0] && minute <= ends[1] ? first : 0;
            int b = minute >= ends[2] && minute <= ends[3] ? second : 0;
            greatest += Math.max(a, b);
            failed += a + b > 0 ? 1 : 0;
        }
        Check.due("one service", one.impact(0), greatest);
        Check.due("minutes of one service", one.minutes(), failed);
        Check.due("the first of two", two.impact(0), first * (ends[1] - ends[0] + 1));
        Check.due("the second of two", two.impact(5), second * (ends[3] - ends[2] + 1));
        Check.due("minutes of two", two.minutes(), failed);
    }

    private static void oneServiceAndSeveral() {
        Document.about("16", "Returns the impact of a service.");
        OutageBook book = new OutageBook();
        for (int service = 0; service < 6; service++) {
            book.measure(service, 10 * service, 10 * service + 14, service + 1);
        }
        for (int service = 0; service < 6; service++) {
            Check.due("the service " + service, book.impact(service), 15 * (service + 1));
        }
        Document.about("17", MINUTES);
        Check.due("each minute once", book.minutes(), 65);
        book.measure(0, 0, 64, 1);
        Check.due("another service in the same minutes", book.minutes(), 65);
        book.measure(0, 65, 65, 1);
        Check.due("one more minute", book.minutes(), 66);
    }

    private static void fortyInOneAnother() {
        Document.about("Impact", IMPACT);
        OutageBook narrow = new OutageBook();
        OutageBook wide = new OutageBook();
        int steps = 0;
        for (int measure = 0; measure < 40; measure++) {
            narrow.measure(0, measure, 10000 - measure, measure + 1);
            wide.measure(0, 39 - measure, 9961 + measure, 40 - measure);
            steps += measure < 39 ? 2 * (measure + 1) : 0;
        }
        Check.due("the narrowest is the worst", narrow.impact(0), steps + 40 * (10001 - 78));
        Check.due("the other way round", wide.impact(0), steps + 40 * (10001 - 78));
        Check.due("all minutes", narrow.minutes(), 10001);
        Check.due("all minutes", wide.minutes(), 10001);
    }

    private static void fortySideBySide() {
        Document.about("17", MINUTES);
        OutageBook meeting = new OutageBook();
        OutageBook apart = new OutageBook();
        OutageBook overlapping = new OutageBook();
        for (int measure = 39; measure >= 0; measure--) {
            meeting.measure(measure % 6, 250 * measure, 250 * measure + 249, 1);
            apart.measure(measure % 6, 250 * measure, 250 * measure + 248, 1);
            overlapping.measure(measure % 6, 250 * measure, 250 * measure + 250, 1);
        }
        Check.due("meeting", meeting.minutes(), 10000);
        Check.due("one minute apart", apart.minutes(), 9960);
        Check.due("overlapping in one minute", overlapping.minutes(), 10001);
        Check.due("meeting, one service", meeting.impact(0), 7 * 250);
        Check.due("overlapping, one service", overlapping.impact(5), 6 * 251);
    }

    private static void servicesAtTheirEnds() {
        Document.about("16", "Throws `IllegalArgumentException` if service is out of range");
        OutageBook book = new OutageBook();
        book.measure(0, 0, 0, 3);
        book.measure(5, 1, 1, 4);
        Check.due("the service 0", book.impact(0), 3);
        Check.due("the service 5", book.impact(5), 4);
        for (int service : new int[] {-1, 6, Integer.MIN_VALUE, Integer.MAX_VALUE}) {
            Told.unchanged(book, "the service " + service, Check.ARGUMENT, () -> book.impact(service));
            Told.unchanged(book, "the service " + service, Check.ARGUMENT, () -> book.measure(service, 0, 0, 1));
        }
    }
}
