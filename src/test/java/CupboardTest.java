/** Promises 6 to 16: what is in the cupboard. */
final class CupboardTest {
    private static final Class<IndexOutOfBoundsException> INDEX = IndexOutOfBoundsException.class;
    private static final int[] NO_NUMBERS = {-1, Integer.MIN_VALUE, Integer.MAX_VALUE};

    public static void main(String[] args) {
        promises6To9();
        promise10();
        promise11();
        promise12();
        promise13();
        promise14();
        promise15();
        promise16();
        Check.finish();
    }

    private static CupboardPoll two() {
        return Books.taught("label a;label b;jar j seats 3 by most holds 40,35;"
                + "label c;jar k seats 9 by quota holds 1,2,200;lid l on j for c;");
    }

    private static void promises6To9() {
        CupboardPoll poll = two();
        Check.same("labels()", poll.labels(), 3);
        Check.same("jars()", poll.jars(), 2);
        Check.same("lids()", poll.lids(), 1);
        Check.same("days()", poll.days(), 0);
        poll.pass(1);
        poll.pass(59);
        Check.same("days() behind 60", poll.days(), 60);
        poll.seatsAfter(0, 5);
        poll.daysUntilMajority(0);
        Check.same("days() behind what would be", poll.days(), 60);
        CupboardPoll many = Books.taught("label a;label b;label c;label d;label e;label f;"
                + "jar ja seats 1 by most holds 1;jar jb seats 1 by most holds 1;jar jc seats 1 by most holds 1;"
                + "jar jd seats 1 by most holds 1;jar je seats 1 by most holds 1;jar jf seats 1 by most holds 1;"
                + "jar jg seats 1 by most holds 1;jar jh seats 2 by most holds 1,2,3,4,5,6;lid la on ja for a;"
                + "lid lb on jb for b;lid lc on jc for c;lid ld on jd for d;lid le on je for e;lid lf on jh for f;");
        Check.same("labels() at most", many.labels(), 6);
        Check.same("jars() at most", many.jars(), 8);
        Check.same("lids() at most", many.lids(), 6);
        Check.same("beansIn(7, 5)", many.beansIn(7, 5), 6);
        Check.same("jarOfLid(5)", many.jarOfLid(5), 7);
        Check.same("labelOfLid(5)", many.labelOfLid(5), 5);
    }

    private static void promise10() {
        CupboardPoll poll = two();
        Check.same("alliances() of single labels", poll.alliances(), 3);
        poll.join(2, 1);
        Check.same("alliances() behind a join", poll.alliances(), 2);
        poll.join(1, 0);
        Check.same("alliances() of one", poll.alliances(), 1);
        poll.leave(1);
        Check.same("alliances() behind a leave", poll.alliances(), 2);
        poll.leave(2);
        Check.same("alliances() at the end", poll.alliances(), 3);
    }

    private static void promise11() {
        CupboardPoll poll = two();
        int[][] due = {{40, 35, 0}, {1, 2, 200}};
        for (int jar = 0; jar < 2; jar++) {
            for (int label = 0; label < 3; label++) {
                Check.same("beansIn(" + jar + ", " + label + ")", poll.beansIn(jar, label), due[jar][label]);
            }
        }
        for (int no : NO_NUMBERS) {
            Check.fails("beansIn, no jar", INDEX, () -> poll.beansIn(no, 0));
            Check.fails("beansIn, no label", INDEX, () -> poll.beansIn(0, no));
        }
        Check.fails("beansIn(2, 0)", INDEX, () -> poll.beansIn(2, 0));
        Check.fails("beansIn(0, 3)", INDEX, () -> poll.beansIn(0, 3));
        Check.fails("beansIn of a new object", INDEX, () -> new CupboardPoll().beansIn(0, 0));
    }

    private static void promise12() {
        CupboardPoll poll = two();
        Check.same("beansOf(0)", poll.beansOf(0), 41);
        Check.same("beansOf(1)", poll.beansOf(1), 37);
        Check.same("beansOf(2)", poll.beansOf(2), 200);
        poll.join(0, 1);
        Check.same("beansOf(1), not its alliance's", poll.beansOf(1), 37);
        for (int no : NO_NUMBERS) {
            Check.fails("beansOf, no label", INDEX, () -> poll.beansOf(no));
        }
        Check.fails("beansOf(3)", INDEX, () -> poll.beansOf(3));
        Check.fails("beansOf of a new object", INDEX, () -> new CupboardPoll().beansOf(0));
        Check.same("beansOf without jars", Books.taught("label a;").beansOf(0), 0);
    }

    private static void promise13() {
        CupboardPoll poll = two();
        Check.same("turnout(0)", poll.turnout(0), 75);
        Check.same("turnout(1)", poll.turnout(1), 203);
        poll.pour(1, 2, 0, 50);
        Check.same("turnout(1) behind pour", poll.turnout(1), 203);
        for (int no : NO_NUMBERS) {
            Check.fails("turnout, no jar", INDEX, () -> poll.turnout(no));
        }
        Check.fails("turnout(2)", INDEX, () -> poll.turnout(2));
    }

    private static void promise14() {
        CupboardPoll poll = two();
        Check.same("seatsOf(0)", poll.seatsOf(0), 3);
        Check.same("seatsOf(1)", poll.seatsOf(1), 9);
        for (int no : NO_NUMBERS) {
            Check.fails("seatsOf, no jar", INDEX, () -> poll.seatsOf(no));
        }
        Check.fails("seatsOf(2)", INDEX, () -> poll.seatsOf(2));
    }

    private static void promise15() {
        CupboardPoll poll = two();
        for (int label = 0; label < 3; label++) {
            Check.same("leaderOf(" + label + ") at first", poll.leaderOf(label), label);
        }
        poll.join(0, 2);
        poll.join(2, 1);
        for (int label = 0; label < 3; label++) {
            Check.same("leaderOf(" + label + ") over others", poll.leaderOf(label), 1);
        }
        poll.leave(2);
        Check.same("leaderOf(0) behind its leader's leave", poll.leaderOf(0), 2);
        Check.same("leaderOf(1) behind that", poll.leaderOf(1), 1);
        for (int no : NO_NUMBERS) {
            Check.fails("leaderOf, no label", INDEX, () -> poll.leaderOf(no));
        }
        Check.fails("leaderOf(3)", INDEX, () -> poll.leaderOf(3));
    }

    private static void promise16() {
        CupboardPoll poll = two();
        Check.same("areAllied(1, 1)", poll.areAllied(1, 1), true);
        Check.same("areAllied(0, 2)", poll.areAllied(0, 2), false);
        poll.join(0, 1);
        poll.join(2, 1);
        Check.same("areAllied(0, 2) over the leader", poll.areAllied(0, 2), true);
        Check.same("areAllied(1, 0)", poll.areAllied(1, 0), true);
        poll.leave(2);
        Check.same("areAllied(2, 0) behind leave", poll.areAllied(2, 0), false);
        for (int no : NO_NUMBERS) {
            Check.fails("areAllied, no label", INDEX, () -> poll.areAllied(no, 0));
            Check.fails("areAllied, no other", INDEX, () -> poll.areAllied(0, no));
            Check.fails("areAllied, both none", INDEX, () -> poll.areAllied(no, no));
        }
        Check.fails("areAllied(3, 3)", INDEX, () -> poll.areAllied(3, 3));
    }
}
