import java.util.function.Consumer;

/**
 * A method that throws an exception changes nothing, nor does one that only tells: of two cupboards
 * that went the same way, one is called and the other not, and both must answer alike from then on.
 */
final class RefusedTest {
    private static final Class<IndexOutOfBoundsException> INDEX = IndexOutOfBoundsException.class;
    private static final Class<IllegalArgumentException> ARGUMENT = IllegalArgumentException.class;
    private static final Class<IllegalStateException> STATE = IllegalStateException.class;
    private static final String BOOK = "label a;label b;label c;label d;"
            + "jar j seats 5 by divide holds 40,35,20,111;jar k seats 4 by quota holds 10,30,0,9;"
            + "jar m seats 3 by most holds 0,3;"
            + "lid l on j for a when day<4(win 3 from d shake hop k)when allied b(leave shake)when day<9(join c hop j);"
            + "lid o on k for c when first c(win beans d from d)when margin<20(shake win 1 from b)when 1=1(hop m join d);"
            + "lid p on m for b when day>6(leave join a)when seats b<7(win 2 from a hop j);";
    private static final String NEXT = "label x;jar y seats 2 by most holds 17;lid z on y for x when 1=1(shake);";
    private static final int LABELS = 4;
    private static final int JARS = 3;
    private static final int LIDS = 3;

    private static final int NEW = 0;
    private static final int TAUGHT = 1;
    private static final int FULL = 2;
    private static final int ERROR = 3;
    private static final int ALLIED = 4;

    public static void main(String[] args) {
        tape();
        numbersOfJarsLabelsAndLids();
        severalNumbers();
        onNewObject();
        pour();
        joinAndLeave();
        days();
        severalExceptions();
        whatOnlyTells();
        bookWithError();
        Check.finish();
    }

    private static CupboardPoll at(int stage) {
        CupboardPoll poll = new CupboardPoll();
        if (stage == NEW) {
            return poll;
        }
        Books.write(poll, BOOK);
        poll.teach();
        poll.pass(2);
        poll.pour(0, 3, 1, 7);
        poll.putLid(2, 1);
        if (stage == ERROR) {
            Books.write(poll, "label a;label a;");
            poll.teach();
        }
        if (stage == ALLIED) {
            poll.join(1, 2);
            poll.join(2, 3);
        }
        Books.write(poll, NEXT);
        if (stage == FULL) {
            Books.write(poll, BookChecks.many(" ", 1600 - NEXT.length() - 19));
        }
        return poll;
    }

    /** Everything that can be asked, then what the cupboard does from here on, then what is on its tape. */
    private static String future(CupboardPoll poll) {
        StringBuilder told = new StringBuilder();
        told.append(poll.errorAt()).append(' ');
        state(poll, told);
        for (int label = 0; label < poll.labels(); label++) {
            try {
                told.append(poll.leave(label)).append(' ');
            } catch (IllegalStateException e) {
                told.append("none ");
            }
        }
        for (int n = 0; n < 12; n++) {
            told.append(poll.pass(1)).append(' ').append(poll.digest()).append(' ');
        }
        told.append("tape ").append(tapeLength(poll)).append(' ').append(poll.teach()).append(' ')
                .append(poll.errorAt()).append(' ');
        state(poll, told);
        return told.toString();
    }

    private static void state(CupboardPoll poll, StringBuilder told) {
        told.append(poll.digest()).append(' ').append(poll.days()).append(' ').append(poll.meanMargin()).append(' ');
        for (int label = 0; label < poll.labels(); label++) {
            told.append(poll.leaderOf(label)).append(' ').append(poll.seatsInAll(label)).append(' ');
            for (int jar = 0; jar < poll.jars(); jar++) {
                told.append(poll.beansIn(jar, label)).append(' ').append(poll.allianceBeans(jar, label)).append(' ');
            }
        }
        for (int lid = 0; lid < poll.lids(); lid++) {
            told.append(poll.jarOfLid(lid)).append(' ').append(poll.ruleOfLid(lid)).append(' ');
        }
    }

    /** What is put on the tape to learn its length is taken off again. */
    private static int tapeLength(CupboardPoll poll) {
        for (int most = 1600; most > 1580; most--) {
            try {
                return poll.trim(most);
            } catch (IllegalArgumentException e) {
                // then it is shorter
            }
        }
        return poll.trim(poll.feed(0, 0, 0, 0, 0) - 20);
    }

    private static void refused(int stage, String what, Class<? extends RuntimeException> due,
            Consumer<CupboardPoll> call) {
        CupboardPoll called = at(stage);
        Check.fails(what, due, () -> call.accept(called));
        Check.sameText("behind " + what, future(called), future(at(stage)));
    }

    private static void tellsOnly(int stage, String what, Consumer<CupboardPoll> call) {
        CupboardPoll called = at(stage);
        call.accept(called);
        Check.sameText("behind " + what, future(called), future(at(stage)));
    }

    private static void tape() {
        for (int stage = NEW; stage <= ALLIED; stage++) {
            int length = tapeLength(at(stage));
            Check.same("length of the tape", length, stage == NEW ? 0 : stage == FULL ? 1581 : NEXT.length());
            for (int bytes : new int[] {-1, -20, Integer.MIN_VALUE, length + 1, 1600 + 1, Integer.MAX_VALUE}) {
                refused(stage, "trim(" + bytes + ")", ARGUMENT, poll -> poll.trim(bytes));
            }
        }
        refused(FULL, "feed to 1581", STATE, poll -> poll.feed(0x20202020, 0x20202020, 0x20202020, 0x20202020, 0x20202020));
        refused(FULL, "feed to 1581, no blanks", STATE, poll -> poll.feed(-1, 1, 2, 3, 4));
        for (int length = 1579; length <= 1600; length++) {
            CupboardPoll poll = new CupboardPoll();
            Books.write(poll, BookChecks.many(" ", length));
            if (length <= 1580) {
                Check.same("feed to " + length, poll.feed(0, 0, 0, 0, 0), length + 20);
            } else {
                Check.fails("feed to " + length, STATE, () -> poll.feed(0, 0, 0, 0, 0));
                Check.same("the tape then", tapeLength(poll), length);
                Check.same("teach() of it", poll.teach(), 0);
            }
        }
    }

    private static int[] notBelow(int count) {
        return new int[] {-1, Integer.MIN_VALUE, count, count + 1, Integer.MAX_VALUE};
    }

    private static void numbersOfJarsLabelsAndLids() {
        for (int no : notBelow(JARS)) {
            refused(TAUGHT, "turnout(" + no + ")", INDEX, poll -> poll.turnout(no));
            refused(TAUGHT, "seatsOf(" + no + ")", INDEX, poll -> poll.seatsOf(no));
            refused(TAUGHT, "firstIn(" + no + ")", INDEX, poll -> poll.firstIn(no));
            refused(TAUGHT, "marginIn(" + no + ")", INDEX, poll -> poll.marginIn(no));
            refused(TAUGHT, "emptySeats(" + no + ")", INDEX, poll -> poll.emptySeats(no));
            refused(TAUGHT, "shake(" + no + ")", INDEX, poll -> poll.shake(no));
            refused(TAUGHT, "firstShaken(" + no + ")", INDEX, poll -> poll.firstShaken(no));
        }
        for (int no : notBelow(LABELS)) {
            refused(TAUGHT, "beansOf(" + no + ")", INDEX, poll -> poll.beansOf(no));
            refused(TAUGHT, "leaderOf(" + no + ")", INDEX, poll -> poll.leaderOf(no));
            refused(TAUGHT, "seatsInAll(" + no + ")", INDEX, poll -> poll.seatsInAll(no));
            refused(TAUGHT, "hasMajority(" + no + ")", INDEX, poll -> poll.hasMajority(no));
            refused(ALLIED, "leave(" + no + ")", INDEX, poll -> poll.leave(no));
            refused(TAUGHT, "daysUntilMajority(" + no + ")", INDEX, poll -> poll.daysUntilMajority(no));
            refused(TAUGHT, "bestJarFor(" + no + ")", INDEX, poll -> poll.bestJarFor(no));
        }
        for (int no : notBelow(LIDS)) {
            refused(TAUGHT, "jarOfLid(" + no + ")", INDEX, poll -> poll.jarOfLid(no));
            refused(TAUGHT, "labelOfLid(" + no + ")", INDEX, poll -> poll.labelOfLid(no));
            refused(TAUGHT, "ruleOfLid(" + no + ")", INDEX, poll -> poll.ruleOfLid(no));
        }
    }

    private static void severalNumbers() {
        for (int no : notBelow(JARS)) {
            refused(TAUGHT, "beansIn(" + no + ", 0)", INDEX, poll -> poll.beansIn(no, 0));
            refused(TAUGHT, "allianceBeans(" + no + ", 0)", INDEX, poll -> poll.allianceBeans(no, 0));
            refused(TAUGHT, "seatsWon(" + no + ", 0)", INDEX, poll -> poll.seatsWon(no, 0));
            refused(TAUGHT, "beansToWin(" + no + ", 0)", INDEX, poll -> poll.beansToWin(no, 0));
            refused(TAUGHT, "pour(" + no + ", 0, 1, 5)", INDEX, poll -> poll.pour(no, 0, 1, 5));
            refused(TAUGHT, "putLid(1, " + no + ")", INDEX, poll -> poll.putLid(1, no));
        }
        for (int no : notBelow(LABELS)) {
            refused(TAUGHT, "beansIn(0, " + no + ")", INDEX, poll -> poll.beansIn(0, no));
            refused(TAUGHT, "allianceBeans(0, " + no + ")", INDEX, poll -> poll.allianceBeans(0, no));
            refused(TAUGHT, "seatsWon(0, " + no + ")", INDEX, poll -> poll.seatsWon(0, no));
            refused(TAUGHT, "beansToWin(0, " + no + ")", INDEX, poll -> poll.beansToWin(0, no));
            refused(TAUGHT, "areAllied(0, " + no + ")", INDEX, poll -> poll.areAllied(0, no));
            refused(TAUGHT, "areAllied(" + no + ", 0)", INDEX, poll -> poll.areAllied(no, 0));
            refused(TAUGHT, "areAllied(" + no + ", " + no + ")", INDEX, poll -> poll.areAllied(no, no));
            refused(TAUGHT, "pour(0, " + no + ", 1, 5)", INDEX, poll -> poll.pour(0, no, 1, 5));
            refused(TAUGHT, "pour(0, 1, " + no + ", 5)", INDEX, poll -> poll.pour(0, 1, no, 5));
            refused(ALLIED, "join(0, " + no + ")", INDEX, poll -> poll.join(0, no));
            refused(ALLIED, "join(1, " + no + ")", INDEX, poll -> poll.join(1, no));
            refused(ALLIED, "join(" + no + ", 0)", INDEX, poll -> poll.join(no, 0));
            refused(TAUGHT, "seatsAfter(" + no + ", 5)", INDEX, poll -> poll.seatsAfter(no, 5));
        }
        for (int no : notBelow(LIDS)) {
            refused(TAUGHT, "putLid(" + no + ", 1)", INDEX, poll -> poll.putLid(no, 1));
            refused(TAUGHT, "putLid(" + no + ", " + no + ")", INDEX, poll -> poll.putLid(no, no));
        }
    }

    private static void onNewObject() {
        refused(NEW, "beansIn(0, 0)", INDEX, poll -> poll.beansIn(0, 0));
        refused(NEW, "beansOf(0)", INDEX, poll -> poll.beansOf(0));
        refused(NEW, "turnout(0)", INDEX, poll -> poll.turnout(0));
        refused(NEW, "seatsOf(0)", INDEX, poll -> poll.seatsOf(0));
        refused(NEW, "leaderOf(0)", INDEX, poll -> poll.leaderOf(0));
        refused(NEW, "areAllied(0, 0)", INDEX, poll -> poll.areAllied(0, 0));
        refused(NEW, "firstIn(0)", INDEX, poll -> poll.firstIn(0));
        refused(NEW, "marginIn(0)", INDEX, poll -> poll.marginIn(0));
        refused(NEW, "allianceBeans(0, 0)", INDEX, poll -> poll.allianceBeans(0, 0));
        refused(NEW, "seatsWon(0, 0)", INDEX, poll -> poll.seatsWon(0, 0));
        refused(NEW, "emptySeats(0)", INDEX, poll -> poll.emptySeats(0));
        refused(NEW, "seatsInAll(0)", INDEX, poll -> poll.seatsInAll(0));
        refused(NEW, "hasMajority(0)", INDEX, poll -> poll.hasMajority(0));
        refused(NEW, "jarOfLid(0)", INDEX, poll -> poll.jarOfLid(0));
        refused(NEW, "labelOfLid(0)", INDEX, poll -> poll.labelOfLid(0));
        refused(NEW, "ruleOfLid(0)", INDEX, poll -> poll.ruleOfLid(0));
        refused(NEW, "pour(0, 0, 1, 1)", INDEX, poll -> poll.pour(0, 0, 1, 1));
        refused(NEW, "shake(0)", INDEX, poll -> poll.shake(0));
        refused(NEW, "putLid(0, 0)", INDEX, poll -> poll.putLid(0, 0));
        refused(NEW, "join(0, 1)", INDEX, poll -> poll.join(0, 1));
        refused(NEW, "leave(0)", INDEX, poll -> poll.leave(0));
        refused(NEW, "pass(0)", ARGUMENT, poll -> poll.pass(0));
        refused(NEW, "pass(61)", ARGUMENT, poll -> poll.pass(61));
        refused(NEW, "seatsAfter(0, 1)", INDEX, poll -> poll.seatsAfter(0, 1));
        refused(NEW, "daysUntilMajority(0)", INDEX, poll -> poll.daysUntilMajority(0));
        refused(NEW, "beansToWin(0, 0)", INDEX, poll -> poll.beansToWin(0, 0));
        refused(NEW, "bestJarFor(0)", INDEX, poll -> poll.bestJarFor(0));
        refused(NEW, "firstShaken(0)", INDEX, poll -> poll.firstShaken(0));
    }

    private static void pour() {
        for (int beans : new int[] {0, -1, -200, Integer.MIN_VALUE, 201, 202, Integer.MAX_VALUE}) {
            refused(TAUGHT, "pour(0, 3, 0, " + beans + ")", ARGUMENT, poll -> poll.pour(0, 3, 0, beans));
            refused(TAUGHT, "pour(0, 3, 3, " + beans + ")", ARGUMENT, poll -> poll.pour(0, 3, 3, beans));
        }
        for (int label = 0; label < LABELS; label++) {
            int same = label;
            refused(TAUGHT, "pour to the same", ARGUMENT, poll -> poll.pour(0, same, same, 5));
        }
    }

    private static void joinAndLeave() {
        // by the act of a lid 2 follows 3
        for (int label = 0; label < LABELS; label++) {
            int each = label;
            refused(TAUGHT, "join of itself", STATE, poll -> poll.join(each, each));
            if (label != 2) {
                refused(TAUGHT, "leave of one that follows none", STATE, poll -> poll.leave(each));
            }
            refused(ALLIED, "join of itself, in an alliance", STATE, poll -> poll.join(each, each));
        }
        // 1 follows 2, and 2 follows 3
        refused(ALLIED, "join(2, 1)", STATE, poll -> poll.join(2, 1));
        refused(ALLIED, "join(3, 2)", STATE, poll -> poll.join(3, 2));
        refused(ALLIED, "join(3, 1), over another one", STATE, poll -> poll.join(3, 1));
        refused(ALLIED, "leave(0)", STATE, poll -> poll.leave(0));
        refused(ALLIED, "leave(3)", STATE, poll -> poll.leave(3));
    }

    private static void days() {
        for (int days : new int[] {0, -1, -60, Integer.MIN_VALUE, 61, 62, 100, Integer.MAX_VALUE}) {
            refused(TAUGHT, "pass(" + days + ")", ARGUMENT, poll -> poll.pass(days));
            refused(TAUGHT, "seatsAfter(1, " + days + ")", ARGUMENT, poll -> poll.seatsAfter(1, days));
        }
    }

    /** Of several exceptions the one that is named first. */
    private static void severalExceptions() {
        refused(TAUGHT, "no jar, the same label, 0 beans", INDEX, poll -> poll.pour(JARS, 1, 1, 0));
        refused(TAUGHT, "no label, 201 beans", INDEX, poll -> poll.pour(0, LABELS, 1, 201));
        refused(TAUGHT, "no other label, 0 beans", INDEX, poll -> poll.pour(0, 1, -1, 0));
        refused(TAUGHT, "both no label, and the same", INDEX, poll -> poll.pour(0, -1, -1, 5));
        refused(ALLIED, "join of no label and itself", INDEX, poll -> poll.join(LABELS, LABELS));
        refused(ALLIED, "join of -1 and itself", INDEX, poll -> poll.join(-1, -1));
        refused(TAUGHT, "no label, 0 days", INDEX, poll -> poll.seatsAfter(LABELS, 0));
        refused(TAUGHT, "no label, 61 days", INDEX, poll -> poll.seatsAfter(-1, 61));
        refused(NEW, "no label at all, 61 days", INDEX, poll -> poll.seatsAfter(0, 61));
    }

    private static void whatOnlyTells() {
        for (int stage : new int[] {TAUGHT, FULL, ERROR, ALLIED}) {
            for (int label = 0; label < LABELS; label++) {
                int each = label;
                tellsOnly(stage, "seatsAfter(.., 1)", poll -> poll.seatsAfter(each, 1));
                tellsOnly(stage, "seatsAfter(.., 60)", poll -> poll.seatsAfter(each, 60));
                tellsOnly(stage, "daysUntilMajority", poll -> poll.daysUntilMajority(each));
                tellsOnly(stage, "bestJarFor", poll -> poll.bestJarFor(each));
                tellsOnly(stage, "beansToWin", poll -> poll.beansToWin(1, each));
                tellsOnly(stage, "areAllied", poll -> poll.areAllied(0, each));
                tellsOnly(stage, "hasMajority", poll -> poll.hasMajority(each));
            }
            for (int jar = 0; jar < JARS; jar++) {
                int each = jar;
                tellsOnly(stage, "firstShaken", poll -> poll.firstShaken(each));
                tellsOnly(stage, "beansToWin", poll -> poll.beansToWin(each, 0));
                tellsOnly(stage, "emptySeats", poll -> poll.emptySeats(each));
            }
            for (int lid = 0; lid < LIDS; lid++) {
                int each = lid;
                tellsOnly(stage, "ruleOfLid", poll -> poll.ruleOfLid(each));
            }
            tellsOnly(stage, "digest", poll -> poll.digest());
            tellsOnly(stage, "meanMargin", poll -> poll.meanMargin());
            tellsOnly(stage, "leading", poll -> poll.leading());
            tellsOnly(stage, "errorAt", poll -> poll.errorAt());
        }
    }

    /** All stays but the tape and what errorAt tells, whatever the error is. */
    private static void bookWithError() {
        String[] wrong = {"label", "label a;label a;", "lid l on j for a;", "label p;label q;label r;label s;label t;"
                + "label u;label v;", "label p;jar q seats 0 by most holds 1;"};
        int[] ats = {5, 14, 9, 54, 20};
        for (int n = 0; n < wrong.length; n++) {
            CupboardPoll called = at(ALLIED);
            called.trim(0);
            Books.write(called, wrong[n]);
            Check.same("teach() of \"" + wrong[n] + "\"", called.teach(), n + 1);
            Check.same("errorAt() of it", called.errorAt(), ats[n]);
            Check.same("its tape is empty then", tapeLength(called), 0);
            CupboardPoll other = at(ALLIED);
            StringBuilder told = new StringBuilder();
            StringBuilder due = new StringBuilder();
            state(called, told);
            state(other, due);
            for (int day = 0; day < 9; day++) {
                told.append(called.pass(1)).append(' ').append(called.digest()).append(' ');
                due.append(other.pass(1)).append(' ').append(other.digest()).append(' ');
            }
            Check.sameText("behind a book with error " + (n + 1), told.toString(), due.toString());
        }
    }
}
