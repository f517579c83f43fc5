/** The edges of causes, reasons and roots: promises 18 to 22. */
final class CauseEdges {
    private static final String ROOT = "A root of a cause that stands is a cause that stands and has no direct"
            + " reason that stands, and is the cause itself, or a direct reason of it, or of such a direct reason"
            + " that stands, and so on.";
    private static final String CIRCLE = "Throws `IllegalStateException` if weight is above 0, and the reason is"
            + " because of the cause, directly or over others, withdrawn ones included";
    private static final String ROOTS = "Returns the roots of a cause: bit c stands for the cause c; 0 if it does"
            + " not stand.";
    private static final String MAIN = "Returns, of the direct reasons of a cause that stand, the one with the"
            + " greatest weight, of several the one with the lowest number; NONE if there is none.";

    private CauseEdges() {
    }

    static void test() {
        sixteenCauses();
        weightsAtTheirEnds();
        takenBack();
        causeAndItself();
        circles();
        circlesOverWithdrawn();
        longCircles();
        standing();
        reasonsOfThree();
        doesNotStand();
        rootsOverOthers();
        bitsOfRoots();
        mainOfSeveral();
        mainOfWithdrawn();
    }

    private static void sixteenCauses() {
        Document.about("Causes", "Causes are numbered from 0; there are at most 16.");
        OutageBook book = new OutageBook();
        Check.dueThrow("no cause", Check.INDEX, () -> book.roots(0));
        for (int cause = 0; cause < 16; cause++) {
            int behind = cause + 1;
            Check.due("the number", book.addCause(), cause);
            Check.dueThrow("behind the last one", Check.INDEX, () -> book.roots(behind));
            Check.dueThrow("behind the last one", Check.INDEX, () -> book.mainReason(behind));
            Check.dueThrow("behind the last one", Check.INDEX, () -> book.setStanding(behind, true));
            Check.dueThrow("behind the last one", Check.INDEX, () -> book.argueReason(0, behind, 1));
            Check.dueThrow("behind the last one", Check.INDEX, () -> book.argueReason(behind, 0, 1));
        }
        Document.about("18", "Throws `IllegalStateException` if there are 16");
        Told.unchanged(book, "one more", Check.STATE, book::addCause);
        book.setStanding(15, false);
        Told.unchanged(book, "one more than a withdrawn one", Check.STATE, book::addCause);
        Document.about("18", "Adds a cause, which stands.");
        for (int cause = 0; cause < 15; cause++) {
            Check.due("its root", book.roots(cause), 1 << cause);
            Check.due("it stood", book.setStanding(cause, true), true);
        }
        Document.about("18", "Returns its number.");
        Check.due("the first one", new OutageBook().addCause(), 0);
        Check.due("the last one", Books.withCauses(15).addCause(), 15);
    }

    private static void weightsAtTheirEnds() {
        Document.about("Causes", "Something can be argued to be because of something else: a cause is a direct"
                + " reason of another one, with a weight.");
        int[][] pairs = {{0, 15}, {15, 0}, {0, 1}, {14, 15}};
        for (int[] pair : pairs) {
            OutageBook book = Books.withCauses(16);
            Check.due("none before", book.argueReason(pair[0], pair[1], 1), 0);
            Check.due("a reason", book.mainReason(pair[0]), pair[1]);
            Check.due("not the other way", book.mainReason(pair[1]), -1);
            Check.due("1 before", book.argueReason(pair[0], pair[1], 100), 1);
            Check.due("100 before", book.argueReason(pair[0], pair[1], 100), 100);
            Check.due("the root", book.roots(pair[0]), 1 << pair[1]);
        }
        Document.about("19", "Throws `IllegalArgumentException` if weight is out of range, or both are the same");
        OutageBook book = Books.withCauses(2);
        book.argueReason(0, 1, 50);
        for (int weight : new int[] {-1, 101, -50, Integer.MIN_VALUE, Integer.MAX_VALUE}) {
            Told.unchanged(book, "the weight " + weight, Check.ARGUMENT, () -> book.argueReason(0, 1, weight));
            Told.unchanged(book, "the weight " + weight, Check.ARGUMENT, () -> book.argueReason(1, 0, weight));
        }
        Check.due("as it was", book.argueReason(0, 1, 50), 50);
    }

    private static void takenBack() {
        Document.about("19", "Argues that a cause is because of another one, in place of what was argued before of"
                + " both in this way.");
        OutageBook book = Books.withCauses(3);
        book.argueReason(0, 1, 90);
        book.argueReason(0, 2, 50);
        Check.due("the main reason", book.mainReason(0), 1);
        Check.due("less in place of it", book.argueReason(0, 1, 10), 90);
        Check.due("the main reason", book.mainReason(0), 2);
        Document.about("19", "Returns the weight before; 0 without one.");
        Check.due("never argued", book.argueReason(1, 2, 7), 0);
        Check.due("argued", book.argueReason(1, 2, 8), 7);
        Check.due("argued again", book.argueReason(1, 2, 0), 8);
        Check.due("taken back", book.argueReason(1, 2, 9), 0);
        Document.about("19", "`weight`: 0 to 100; 0 takes it back");
        Check.due("what was never argued", book.argueReason(2, 1, 0), 0);
        Check.due("the other way of what is argued", book.argueReason(1, 0, 0), 0);
        Check.due("it changed nothing", book.argueReason(0, 1, 0), 10);
        Check.due("twice", book.argueReason(0, 1, 0), 0);
        Check.due("what is left", book.mainReason(0), 2);
        Check.due("what is left", book.roots(0), 4);
        Document.about("19", "`reason`: the other one");
        Check.due("the reason has none", book.mainReason(2), -1);
        Check.due("the other one has", book.mainReason(1), 2);
    }

    private static void causeAndItself() {
        Document.about("19", "Throws `IllegalArgumentException` if weight is out of range, or both are the same");
        OutageBook book = Books.FULL.make();
        for (int cause = 0; cause < 16; cause++) {
            int one = cause;
            for (int weight : new int[] {0, 1, 100, -1, 101}) {
                Told.unchanged(book, "itself by " + weight, Check.ARGUMENT, () -> book.argueReason(one, one, weight));
            }
        }
    }

    private static void circles() {
        Document.about("19", CIRCLE);
        OutageBook book = Books.withCauses(4);
        book.argueReason(0, 1, 1);
        Told.unchanged(book, "directly", Check.STATE, () -> book.argueReason(1, 0, 1));
        Check.due("taken back, the weight 0", book.argueReason(1, 0, 0), 0);
        book.argueReason(1, 2, 1);
        book.argueReason(2, 3, 1);
        Told.unchanged(book, "over one", Check.STATE, () -> book.argueReason(2, 0, 100));
        Told.unchanged(book, "over two", Check.STATE, () -> book.argueReason(3, 0, 1));
        Told.unchanged(book, "over one at the end", Check.STATE, () -> book.argueReason(3, 1, 1));
        Check.due("over two, the weight 0", book.argueReason(3, 0, 0), 0);
        Check.due("a shorter way is none", book.argueReason(0, 3, 5), 0);
        Check.due("what is argued, once more", book.argueReason(0, 1, 9), 1);
        book.argueReason(1, 2, 0);
        Told.unchanged(book, "the shorter way is left", Check.STATE, () -> book.argueReason(3, 0, 1));
        Check.due("no way is left", book.argueReason(2, 0, 1), 0);
        Told.unchanged(book, "a way from 2 to 1", Check.STATE, () -> book.argueReason(1, 2, 1));
    }

    private static void circlesOverWithdrawn() {
        Document.about("19", CIRCLE);
        for (int standing = 0; standing < 8; standing++) {
            OutageBook book = Books.withCauses(3);
            book.argueReason(2, 0, 1);
            book.argueReason(0, 1, 1);
            for (int cause = 0; cause < 3; cause++) {
                book.setStanding(cause, (standing >> cause & 1) == 1);
            }
            Told.unchanged(book, "over a cause", Check.STATE, () -> book.argueReason(1, 2, 1));
            Told.unchanged(book, "directly", Check.STATE, () -> book.argueReason(0, 2, 1));
            Check.due("no circle", book.argueReason(2, 1, 3), 0);
        }
    }

    private static void longCircles() {
        Document.about("19", CIRCLE);
        OutageBook up = Books.withCauses(16);
        OutageBook down = Books.withCauses(16);
        for (int cause = 0; cause < 15; cause++) {
            up.argueReason(cause, cause + 1, 1);
            down.argueReason(15 - cause, 14 - cause, 1);
        }
        Told.unchanged(up, "over all others", Check.STATE, () -> up.argueReason(15, 0, 1));
        Told.unchanged(down, "over all others", Check.STATE, () -> down.argueReason(0, 15, 1));
        up.setStanding(7, false);
        down.setStanding(7, false);
        Told.unchanged(up, "over a withdrawn one", Check.STATE, () -> up.argueReason(15, 0, 1));
        Told.unchanged(down, "over a withdrawn one", Check.STATE, () -> down.argueReason(0, 15, 1));
        up.argueReason(7, 8, 0);
        down.argueReason(8, 7, 0);
        Check.due("the way is cut", up.argueReason(15, 0, 1), 0);
        Check.due("the way is cut", down.argueReason(0, 15, 1), 0);
        Document.about("Causes", ROOT);
        Check.due("up to the withdrawn one", up.roots(8), 1 << 6);
        Check.due("down to the withdrawn one", down.roots(6), 1 << 8);
    }

    private static void standing() {
        Document.about("Causes", "A cause can be withdrawn, and stand again.");
        for (int cause = 0; cause < 16; cause += 15) {
            OutageBook book = Books.withCauses(16);
            book.setStanding(cause, false);
            Check.due("withdrawn", book.roots(cause), 0);
            book.setStanding(cause, true);
            Check.due("stands again", book.roots(cause), 1 << cause);
        }
        Document.about("20", "Withdraws a cause, or lets it stand again.");
        OutageBook book = Books.withCauses(2);
        book.setStanding(0, false);
        Check.due("the other one stands", book.roots(1), 2);
        Document.about("20", "Returns whether it stood.");
        Check.due("not then", book.setStanding(0, false), false);
        Check.due("not then", book.setStanding(0, true), false);
        Check.due("then", book.setStanding(0, true), true);
        Check.due("then", book.setStanding(0, false), true);
        Check.due("a new one", book.setStanding(1, false), true);
    }

    /** All sets of reasons among three causes, argued in two orders, with all of them that can stand. */
    private static void reasonsOfThree() {
        int[][] pairs = {{0, 1}, {0, 2}, {1, 0}, {1, 2}, {2, 0}, {2, 1}};
        for (int set = 0; set < 128; set++) {
            OutageBook book = Books.withCauses(3);
            int[] reasons = new int[3];
            for (int turn = 0; turn < 6; turn++) {
                int at = set < 64 ? turn : 5 - turn;
                if ((set >> at & 1) == 1) {
                    dueReason(book, reasons, pairs[at][0], pairs[at][1]);
                }
            }
            for (int standing = 0; standing < 8; standing++) {
                dueRoots(book, reasons, standing);
            }
        }
    }

    private static void dueReason(OutageBook book, int[] reasons, int cause, int reason) {
        Document.about("19", CIRCLE);
        int other = 3 - cause - reason;
        boolean isDirect = (reasons[reason] >> cause & 1) == 1;
        boolean isOver = (reasons[reason] >> other & 1) == 1 && (reasons[other] >> cause & 1) == 1;
        boolean isRefused = isDirect || isOver;
        String answer = Check.answer(() -> book.argueReason(cause, reason, 1));
        Check.due("a reason of three", answer, isRefused ? "throws." + Check.STATE : "0");
        reasons[cause] |= isRefused ? 0 : 1 << reason;
    }

    private static void dueRoots(OutageBook book, int[] reasons, int standing) {
        Document.about("Causes", ROOT);
        for (int cause = 0; cause < 3; cause++) {
            book.setStanding(cause, (standing >> cause & 1) == 1);
        }
        for (int cause = 0; cause < 3; cause++) {
            Check.due("the roots of three", book.roots(cause), roots(reasons, standing, cause));
        }
    }

    private static int roots(int[] reasons, int standing, int cause) {
        if ((standing >> cause & 1) == 0) {
            return 0;
        }
        int roots = 0;
        for (int reason = 0; reason < 3; reason++) {
            roots |= (reasons[cause] >> reason & 1) == 1 ? roots(reasons, standing, reason) : 0;
        }
        return roots == 0 ? 1 << cause : roots;
    }

    private static void doesNotStand() {
        Document.about("21", ROOTS);
        OutageBook book = Books.withCauses(3);
        book.argueReason(0, 1, 1);
        book.argueReason(0, 2, 1);
        book.setStanding(0, false);
        Check.due("its reasons stand", book.roots(0), 0);
        Check.due("a reason of it", book.roots(1), 2);
        book.setStanding(1, false);
        book.setStanding(2, false);
        Check.due("none stands", book.roots(0), 0);
        book.setStanding(0, true);
        Check.due("its reasons do not stand", book.roots(0), 1);
        book.setStanding(2, true);
        Check.due("one of them stands", book.roots(0), 4);
    }

    private static void rootsOverOthers() {
        Document.about("Causes", ROOT);
        OutageBook book = Books.withCauses(5);
        book.argueReason(0, 1, 1);
        book.argueReason(0, 2, 1);
        book.argueReason(1, 3, 1);
        book.argueReason(2, 3, 1);
        book.argueReason(3, 4, 1);
        Check.due("one root over two ways", book.roots(0), 16);
        book.setStanding(3, false);
        Check.due("not over one that does not stand", book.roots(0), 2 + 4);
        Check.due("what lies behind it", book.roots(4), 16);
        book.setStanding(1, false);
        Check.due("one way is left", book.roots(0), 4);
        book.setStanding(3, true);
        Check.due("to the root over one way", book.roots(0), 16);
        book.setStanding(2, false);
        Check.due("no way, but it stands", book.roots(0), 1);
    }

    private static void bitsOfRoots() {
        Document.about("21", ROOTS);
        OutageBook book = Books.withCauses(16);
        Check.due("bit 0", book.roots(0), 1);
        Check.due("bit 15", book.roots(15), 32768);
        for (int reason = 1; reason < 16; reason++) {
            book.argueReason(0, reason, 1);
        }
        Check.due("all others", book.roots(0), 65534);
        book.argueReason(1, 15, 1);
        Check.due("one that has a reason", book.roots(0), 65532);
        OutageBook last = Books.withCauses(16);
        for (int reason = 0; reason < 15; reason++) {
            last.argueReason(15, reason, 1);
        }
        Check.due("all others of the last one", last.roots(15), 32767);
    }

    private static void mainOfSeveral() {
        Document.about("22", MAIN);
        OutageBook book = Books.withCauses(16);
        Check.due("none", book.mainReason(7), OutageBook.NONE);
        for (int reason = 15; reason >= 0; reason--) {
            if (reason != 7) {
                book.argueReason(7, reason, 50);
                Check.due("of one weight the lowest", book.mainReason(7), reason);
            }
        }
        for (int reason = 1; reason < 16; reason++) {
            if (reason != 7) {
                book.argueReason(7, reason, 51);
                Check.due("the greatest weight", book.mainReason(7), reason);
                book.argueReason(7, reason, 50);
                Check.due("one weight again", book.mainReason(7), 0);
            }
        }
        book.argueReason(7, 15, 100);
        book.argueReason(7, 0, 1);
        Check.due("100", book.mainReason(7), 15);
        OutageBook least = Books.withCauses(2);
        least.argueReason(1, 0, 1);
        Check.due("the least weight", least.mainReason(1), 0);
        least.argueReason(1, 0, 0);
        Check.due("taken back", least.mainReason(1), OutageBook.NONE);
    }

    private static void mainOfWithdrawn() {
        Document.about("22", MAIN);
        OutageBook book = Books.withCauses(4);
        book.argueReason(0, 1, 9);
        book.argueReason(0, 2, 9);
        book.argueReason(0, 3, 8);
        book.argueReason(3, 2, 100);
        book.setStanding(1, false);
        Check.due("the next one with the weight", book.mainReason(0), 2);
        book.setStanding(2, false);
        Check.due("a lesser weight", book.mainReason(0), 3);
        Check.due("the only one is withdrawn", book.mainReason(3), OutageBook.NONE);
        book.setStanding(3, false);
        Check.due("all are withdrawn", book.mainReason(0), OutageBook.NONE);
        book.setStanding(1, true);
        Check.due("one stands again", book.mainReason(0), 1);
        Document.about("22", "Whether the cause itself stands does not matter.");
        book.setStanding(0, false);
        Check.due("of a withdrawn one", book.mainReason(0), 1);
        book.setStanding(1, false);
        Check.due("nothing stands", book.mainReason(0), OutageBook.NONE);
    }
}
