/**
 * All that a book tells, as one text: to see that a call changed nothing. It asks more than 512 times
 * of one object, where the document leaves the answers free; the program counts no calls.
 */
final class Told {
    private Told() {
    }

    static String by(OutageBook book) {
        StringBuilder told = new StringBuilder();
        clocks(book, told);
        lines(book, told);
        impact(book, told);
        causes(book, told);
        return told.toString();
    }

    private static void clocks(OutageBook book, StringBuilder told) {
        for (int clock = 0; clock < 5; clock++) {
            for (int other = 0; other < 5; other++) {
                told.append(book.greatest(clock, other)).append(' ');
            }
        }
    }

    private static void lines(OutageBook book, StringBuilder told) {
        int count = book.lines();
        told.append("| lines ").append(count).append(": ");
        for (int line = 0; line < count; line++) {
            told.append(book.lineAt(line)).append(' ').append(book.earliest(line)).append(' ');
            told.append(book.isDoubtful(line)).append(' ');
            for (int other = 0; other < count; other++) {
                told.append(book.mustComeBefore(line, other) ? 1 : 0);
            }
        }
        told.append(Check.answer(book::orders)).append("| story ").append(book.story()).append(": ");
        for (int place = 0; place < book.story(); place++) {
            told.append(book.storyAt(place)).append(' ');
        }
    }

    private static void impact(OutageBook book, StringBuilder told) {
        told.append("| impact ").append(book.minutes()).append(": ");
        for (int service = 0; service < 6; service++) {
            told.append(book.firstOf(service)).append(' ').append(book.impact(service)).append(' ');
        }
    }

    private static void causes(OutageBook book, StringBuilder told) {
        told.append("| causes ");
        for (int cause = 0; cause < 16; cause++) {
            int one = cause;
            told.append(Check.answer(() -> book.roots(one))).append(' ');
            told.append(Check.answer(() -> book.mainReason(one))).append(' ');
        }
    }

    /** By questions, and then by calls that change the book: weights, and the room that is left. */
    static String andSpent(OutageBook book) {
        StringBuilder told = new StringBuilder(by(book));
        for (int line = 0; line < book.lines(); line++) {
            told.append(book.argue(line, 1, true)).append(' ');
        }
        for (int cause = 0; cause < 16; cause++) {
            int one = cause;
            told.append("| cause ").append(Check.answer(() -> book.setStanding(one, true))).append(' ');
            for (int reason = 0; reason < 16; reason++) {
                int other = reason;
                told.append(Check.answer(() -> book.argueReason(one, other, 0))).append(' ');
            }
        }
        for (int more = 0; more < 41; more++) {
            told.append("| room ").append(Check.answer(book::addCause)).append(' ');
            told.append(Check.answer(() -> book.write(0, 0, 0, true))).append(' ');
            told.append(Check.answer(() -> book.measure(0, 0, 0, 0))).append(' ');
        }
        return told.toString();
    }

    /** A call that must throw, and leave all that the book tells as it was. */
    static void unchanged(OutageBook book, String what, String exception, Check.Call call) {
        String before = by(book);
        Check.dueThrow(what, exception, call);
        Check.due("all after " + what, by(book), before);
    }
}
