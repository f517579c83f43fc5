/** Promises 18 to 22: causes, reasons, standing and roots. */
final class CausesTest {
    private CausesTest() {
    }

    public static void main(String[] args) {
        sixteenCauses();
        weightsReplaced();
        reasonArguments();
        circles();
        circlesOverWithdrawn();
        standing();
        rootsTold();
        rootsOverWithdrawn();
        longChain();
        mainReasons();
        leastWeight();
        noSuchCause();
        Check.end("CausesTest");
    }

    private static void sixteenCauses() {
        OutageBook book = new OutageBook();
        for (int cause = 0; cause < 16; cause++) {
            Check.due("18: cause " + cause, book.addCause(), cause);
            Check.due("18: it is its own root", book.roots(cause), 1 << cause);
        }
        Told.unchanged(book, "18: one too many", Check.STATE, book::addCause);
        Check.due("18: it stands", book.setStanding(15, true), true);
    }

    private static void weightsReplaced() {
        OutageBook book = Books.withCauses(3);
        Check.due("19: none before", book.argueReason(2, 0, 100), 0);
        Check.due("19: in place of it", book.argueReason(2, 0, 1), 100);
        Check.due("19: another pair", book.argueReason(2, 1, 50), 0);
        Check.due("22: the greater one", book.mainReason(2), 1);
        Check.due("19: taken back", book.argueReason(2, 0, 0), 1);
        Check.due("19: taken back twice", book.argueReason(2, 0, 0), 0);
        Check.due("21: without it", book.roots(2), 2);
        Check.due("19: the other way, then", book.argueReason(0, 2, 7), 0);
        Check.due("21: over the other one", book.roots(0), 2);
    }

    private static void reasonArguments() {
        OutageBook book = Books.withCauses(2);
        book.argueReason(0, 1, 5);
        for (int weight : new int[] {-1, 101, Integer.MIN_VALUE, Integer.MAX_VALUE}) {
            Told.unchanged(book, "19: weight", Check.ARGUMENT, () -> book.argueReason(0, 1, weight));
            Told.unchanged(book, "19: weight first", Check.ARGUMENT, () -> book.argueReason(1, 0, weight));
            Told.unchanged(book, "19: no cause first", Check.INDEX, () -> book.argueReason(2, 0, weight));
            Told.unchanged(book, "19: no reason first", Check.INDEX, () -> book.argueReason(0, 2, weight));
        }
        Told.unchanged(book, "19: the same", Check.ARGUMENT, () -> book.argueReason(1, 1, 1));
        Told.unchanged(book, "19: the same", Check.ARGUMENT, () -> book.argueReason(1, 1, 0));
        Told.unchanged(book, "19: neither is one", Check.INDEX, () -> book.argueReason(2, 2, 1));
        Check.due("19: as it was", book.argueReason(0, 1, 100), 5);
    }

    private static void circles() {
        OutageBook book = Books.withCauses(4);
        book.argueReason(0, 1, 1);
        book.argueReason(1, 2, 1);
        Told.unchanged(book, "19: a circle of two", Check.STATE, () -> book.argueReason(1, 0, 1));
        Told.unchanged(book, "19: a circle of three", Check.STATE, () -> book.argueReason(2, 0, 1));
        Check.due("19: taking back makes no circle", book.argueReason(2, 0, 0), 0);
        Check.due("19: the same way once more", book.argueReason(0, 2, 1), 0);
        book.argueReason(1, 2, 0);
        Told.unchanged(book, "19: a circle over the other way", Check.STATE, () -> book.argueReason(2, 0, 1));
        book.argueReason(0, 2, 0);
        Check.due("19: no circle any more", book.argueReason(2, 0, 1), 0);
        Check.due("21: roots", book.roots(2), 2);
    }

    private static void circlesOverWithdrawn() {
        OutageBook book = Books.withCauses(3);
        book.argueReason(0, 1, 1);
        book.argueReason(1, 2, 1);
        book.setStanding(1, false);
        Told.unchanged(book, "19: over a withdrawn one", Check.STATE, () -> book.argueReason(2, 0, 1));
        book.setStanding(0, false);
        book.setStanding(2, false);
        Told.unchanged(book, "19: all are withdrawn", Check.STATE, () -> book.argueReason(2, 0, 100));
        Check.due("19: a withdrawn one has reasons", book.argueReason(1, 2, 9), 1);
    }

    private static void standing() {
        OutageBook book = Books.withCauses(2);
        Check.due("20: it stood", book.setStanding(1, true), true);
        Check.due("20: it stood", book.setStanding(1, false), true);
        Check.due("20: it did not", book.setStanding(1, false), false);
        Check.due("20: the other one did", book.setStanding(0, true), true);
        Check.due("20: it did not", book.setStanding(1, true), false);
        Check.due("20: it stands again", book.setStanding(1, true), true);
        Check.due("21: it stands again", book.roots(1), 2);
    }

    private static void rootsTold() {
        OutageBook book = Books.withCauses(6);
        book.argueReason(0, 1, 1);
        book.argueReason(0, 2, 1);
        book.argueReason(1, 3, 1);
        book.argueReason(2, 3, 1);
        book.argueReason(2, 4, 1);
        Check.due("21: two roots", book.roots(0), 8 + 16);
        Check.due("21: one of them", book.roots(1), 8);
        Check.due("21: itself", book.roots(3), 8);
        Check.due("21: apart", book.roots(5), 32);
        book.setStanding(4, false);
        Check.due("21: one is withdrawn", book.roots(0), 8);
        book.setStanding(3, false);
        Check.due("21: both are withdrawn", book.roots(0), 2 + 4);
        Check.due("21: a withdrawn one", book.roots(3), 0);
        book.setStanding(0, false);
        Check.due("21: withdrawn itself", book.roots(0), 0);
        Check.due("21: another one is not", book.roots(1), 2);
        book.setStanding(0, true);
        book.setStanding(4, true);
        Check.due("21: stand again", book.roots(0), 2 + 16);
    }

    private static void rootsOverWithdrawn() {
        OutageBook book = Books.withCauses(3);
        book.argueReason(0, 1, 1);
        book.argueReason(1, 2, 1);
        book.setStanding(1, false);
        Check.due("21: not over a withdrawn one", book.roots(0), 1);
        Check.due("21: the one behind it", book.roots(2), 4);
    }

    private static void longChain() {
        OutageBook up = Books.withCauses(16);
        OutageBook down = Books.withCauses(16);
        for (int cause = 0; cause < 15; cause++) {
            up.argueReason(cause, cause + 1, 1);
            down.argueReason(cause + 1, cause, 1);
        }
        Check.due("21: a chain upwards", up.roots(0), 1 << 15);
        Check.due("21: a chain downwards", down.roots(15), 1);
        Told.unchanged(up, "19: a long circle upwards", Check.STATE, () -> up.argueReason(15, 0, 1));
        Told.unchanged(down, "19: a long circle downwards", Check.STATE, () -> down.argueReason(0, 15, 1));
    }

    private static void mainReasons() {
        OutageBook book = Books.withCauses(5);
        Check.due("22: none", book.mainReason(0), OutageBook.NONE);
        book.argueReason(0, 4, 7);
        book.argueReason(0, 3, 7);
        book.argueReason(0, 2, 6);
        book.argueReason(3, 1, 100);
        Check.due("22: the lower number", book.mainReason(0), 3);
        Check.due("22: a direct one only", book.mainReason(3), 1);
        book.setStanding(3, false);
        Check.due("22: one that stands", book.mainReason(0), 4);
        Check.due("22: of one that does not stand", book.mainReason(3), 1);
        book.setStanding(4, false);
        Check.due("22: the last one", book.mainReason(0), 2);
        book.argueReason(0, 2, 0);
        Check.due("22: none that stands", book.mainReason(0), OutageBook.NONE);
        book.setStanding(4, true);
        book.setStanding(3, true);
        book.argueReason(0, 4, 8);
        Check.due("22: the greater one", book.mainReason(0), 4);
        Check.due("22: without a reason", book.mainReason(1), OutageBook.NONE);
    }

    private static void leastWeight() {
        OutageBook book = Books.withCauses(2);
        book.argueReason(1, 0, 1);
        Check.due("22: the least weight, the lowest number", book.mainReason(1), 0);
        book.argueReason(1, 0, 0);
        Check.due("22: taken back", book.mainReason(1), OutageBook.NONE);
    }

    private static void noSuchCause() {
        OutageBook book = Books.withCauses(2);
        for (int cause : new int[] {-1, 2, 15, 16, 32, Integer.MIN_VALUE, Integer.MAX_VALUE}) {
            Told.unchanged(book, "19: no cause", Check.INDEX, () -> book.argueReason(cause, 0, 1));
            Told.unchanged(book, "19: no reason", Check.INDEX, () -> book.argueReason(0, cause, 1));
            Told.unchanged(book, "20: withdrawn", Check.INDEX, () -> book.setStanding(cause, false));
            Told.unchanged(book, "20: stands", Check.INDEX, () -> book.setStanding(cause, true));
            Told.unchanged(book, "21: roots", Check.INDEX, () -> book.roots(cause));
            Told.unchanged(book, "22: mainReason", Check.INDEX, () -> book.mainReason(cause));
        }
    }
}
