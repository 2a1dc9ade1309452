/** Promises 28 to 32: what is done by hand. */
final class HandTest {
    private static final Class<IndexOutOfBoundsException> INDEX = IndexOutOfBoundsException.class;
    private static final Class<IllegalArgumentException> ARGUMENT = IllegalArgumentException.class;
    private static final Class<IllegalStateException> STATE = IllegalStateException.class;
    private static final int[] NO_NUMBERS = {-1, Integer.MIN_VALUE, Integer.MAX_VALUE};
    private static final String FOUR = "label a;label b;label c;label d;";

    public static void main(String[] args) {
        promise28();
        promise29();
        promise30();
        promise31();
        promise31OverAll();
        promise32();
        Check.finish();
    }

    private static void holds(String what, CupboardPoll poll, int jar, int... due) {
        for (int label = 0; label < due.length; label++) {
            Check.same(what + ": beansIn(" + jar + ", " + label + ")", poll.beansIn(jar, label), due[label]);
        }
    }

    private static void promise28() {
        CupboardPoll poll = Books.taught(FOUR + "jar j seats 1 by most holds 40,35,200;jar k seats 1 by most holds 9;");
        Check.same("pour(0, 0, 1, 7)", poll.pour(0, 0, 1, 7), 7);
        holds("pour", poll, 0, 33, 42, 200, 0);
        Check.same("firstIn behind that", poll.firstIn(0), 2);
        Check.same("pour of all there are", poll.pour(0, 0, 3, 200), 33);
        Check.same("pour of none there are", poll.pour(0, 0, 3, 1), 0);
        Check.same("pour of 200", poll.pour(0, 2, 1, 200), 200);
        holds("pour of all", poll, 0, 0, 242, 0, 33);
        Check.same("firstIn then", poll.firstIn(0), 1);
        Check.same("pour of 200 of 242", poll.pour(0, 1, 2, 200), 200);
        holds("the other jar", poll, 1, 9, 0, 0, 0);
        Check.fails("pour of 0", ARGUMENT, () -> poll.pour(0, 1, 2, 0));
        Check.fails("pour of -1", ARGUMENT, () -> poll.pour(0, 1, 2, -1));
        Check.fails("pour of 201", ARGUMENT, () -> poll.pour(0, 1, 2, 201));
        Check.fails("pour to the same", ARGUMENT, () -> poll.pour(0, 1, 1, 5));
        for (int no : NO_NUMBERS) {
            Check.fails("pour, no jar", INDEX, () -> poll.pour(no, 0, 1, 1));
            Check.fails("pour, no label", INDEX, () -> poll.pour(0, no, 1, 1));
            Check.fails("pour, no other label", INDEX, () -> poll.pour(0, 0, no, 1));
            Check.fails("pour, no label twice: named first", INDEX, () -> poll.pour(0, no, no, 1));
            Check.fails("pour, no jar, 0 beans: named first", INDEX, () -> poll.pour(no, 0, 0, 0));
        }
        Check.fails("pour(2, ..)", INDEX, () -> poll.pour(2, 0, 1, 1));
        Check.fails("pour(.., 4, ..)", INDEX, () -> poll.pour(0, 4, 1, 1));
        Check.fails("pour(.., 4, 0)", INDEX, () -> poll.pour(0, 1, 4, 0));
        holds("nothing was changed", poll, 0, 0, 42, 200, 33);
    }

    private static void promise29() {
        CupboardPoll poll = Books.taught(FOUR + "jar j seats 1 by most holds 40,39,9,109;jar k seats 1 by most holds 50;");
        // 4, 3, 0 and 10 go on, the last ones to label 0
        Check.same("shake(0)", poll.shake(0), 3);
        holds("shake", poll, 0, 46, 40, 12, 99);
        holds("the other jar", poll, 1, 50, 0, 0, 0);
        Check.same("shake(0) again", poll.shake(0), 3);
        holds("shake again", poll, 0, 51, 40, 15, 91);
        CupboardPoll turns = Books.taught("label a;label b;jar j seats 1 by most holds 20,19;");
        Check.same("shake that turns", turns.shake(0), 1);
        holds("shake that turns", turns, 0, 19, 20);
        turns.join(1, 0);
        Check.same("shake with an alliance", turns.shake(0), 0);
        Check.same("shake of an empty jar",
                Books.taught("label a;jar j seats 1 by most holds 0;").shake(0), -1);
        CupboardPoll single = Books.taught("label a;jar j seats 1 by most holds 77;");
        Check.same("shake of one label", single.shake(0), 0);
        holds("shake of one label", single, 0, 77);
        shakeKeepsAllBeans();
        for (int no : NO_NUMBERS) {
            Check.fails("shake, no jar", INDEX, () -> poll.shake(no));
        }
        Check.fails("shake(2)", INDEX, () -> poll.shake(2));
    }

    private static void shakeKeepsAllBeans() {
        String labels = "";
        String beans = "";
        for (int count = 1; count <= 6; count++) {
            labels += "label " + (char) ('a' + count - 1) + ";";
            beans += (count == 1 ? "" : ",") + 10 * count;
            CupboardPoll poll = Books.taught(labels + "jar j seats 9 by quota holds " + beans
                    + ";lid l on j for a when 1=1(shake);");
            int turnout = poll.turnout(0);
            for (int n = 0; n < 20; n++) {
                poll.shake(0);
                poll.pass(1);
                Check.same("turnout behind shakes with " + count + " labels", poll.turnout(0), turnout);
            }
            int held = 0;
            for (int label = 0; label < count; label++) {
                held += poll.beansOf(label);
            }
            Check.same("all beans behind shakes with " + count + " labels", held, turnout);
        }
    }

    private static void promise30() {
        CupboardPoll poll = Books.taught("label a;jar j seats 1 by most holds 5;jar k seats 1 by most holds 9;"
                + "lid l on k for a;lid m on j for a when turnout=9(shake);");
        Check.same("putLid(1, 1)", poll.putLid(1, 1), 0);
        Check.same("jarOfLid(1)", poll.jarOfLid(1), 1);
        Check.same("ruleOfLid(1) there", poll.ruleOfLid(1), 0);
        Check.same("putLid to the same jar", poll.putLid(1, 1), 1);
        Check.same("putLid back", poll.putLid(1, 0), 1);
        Check.same("jarOfLid(0), not put", poll.jarOfLid(0), 1);
        for (int no : NO_NUMBERS) {
            Check.fails("putLid, no lid", INDEX, () -> poll.putLid(no, 1));
            Check.fails("putLid, no jar", INDEX, () -> poll.putLid(1, no));
        }
        Check.fails("putLid(2, 1)", INDEX, () -> poll.putLid(2, 1));
        Check.fails("putLid(1, 2)", INDEX, () -> poll.putLid(1, 2));
        Check.same("nothing was changed", poll.jarOfLid(1), 0);
    }

    private static void promise31() {
        CupboardPoll poll = Books.taught(FOUR);
        Check.same("join(0, 1)", poll.join(0, 1), 1);
        Check.same("join(1, 2)", poll.join(1, 2), 2);
        Check.same("join(2, 3)", poll.join(2, 3), 3);
        Check.same("leaderOf(0) over all", poll.leaderOf(0), 3);
        Check.fails("join of itself", STATE, () -> poll.join(0, 0));
        Check.fails("join of one that follows", STATE, () -> poll.join(3, 2));
        Check.fails("join of one that follows over others", STATE, () -> poll.join(3, 0));
        Check.fails("join in the middle of one that follows", STATE, () -> poll.join(2, 0));
        Check.same("nothing was changed", poll.leaderOf(2), 3);
        Check.same("join of the same one again", poll.join(0, 1), 3);
        Check.same("join of one ahead", poll.join(0, 3), 3);
        Check.same("leave tells the one that it follows now", poll.leave(0), 3);
        Check.same("join in place of another one", poll.join(1, 0), 0);
        Check.same("leaderOf(2), which it does not follow any more", poll.leaderOf(2), 3);
        Check.same("alliances()", poll.alliances(), 2);
        Check.same("join of two alliances", poll.join(3, 1), 0);
        for (int no : NO_NUMBERS) {
            Check.fails("join, no label", INDEX, () -> poll.join(no, 1));
            Check.fails("join, no other", INDEX, () -> poll.join(1, no));
            Check.fails("join, no label twice: named first", INDEX, () -> poll.join(no, no));
        }
        Check.fails("join(4, 4)", INDEX, () -> poll.join(4, 4));
        Check.fails("join(0, 4)", INDEX, () -> poll.join(0, 4));
    }

    private static void promise31OverAll() {
        String book = "label a;label b;label c;label d;label e;label f;jar j seats 1 by most holds 1;";
        CupboardPoll poll = Books.taught(book + "lid l on j for f when 1=1(join a);");
        for (int label = 0; label < 5; label++) {
            Check.same("join over others", poll.join(label, label + 1), label + 1);
        }
        Check.same("leaderOf(0) over all others", poll.leaderOf(0), 5);
        for (int to = 0; to < 6; to++) {
            int follower = to;
            Check.fails("join of one that follows over others", STATE, () -> poll.join(5, follower));
        }
        Check.same("pass: join of one that follows over all others", poll.pass(1), 1);
        Check.same("leaderOf(5) then", poll.leaderOf(5), 5);
        Check.same("alliances() then", poll.alliances(), 1);
        poll.leave(4);
        Check.same("pass: join of one that does not follow any more", poll.pass(1), 1);
        Check.same("leaderOf(5) then", poll.leaderOf(5), 4);
    }

    private static void promise32() {
        CupboardPoll poll = Books.taught(FOUR + "jar j seats 3 by most holds 1,2,0,2;");
        Check.fails("leave of one that follows none", STATE, () -> poll.leave(0));
        poll.join(0, 1);
        poll.join(1, 2);
        Check.same("firstIn of the alliance", poll.firstIn(0), 2);
        Check.fails("leave of a leader", STATE, () -> poll.leave(2));
        Check.same("leave(1)", poll.leave(1), 2);
        Check.same("leaderOf(0), which still follows", poll.leaderOf(0), 1);
        Check.same("leaderOf(2)", poll.leaderOf(2), 2);
        Check.same("firstIn then", poll.firstIn(0), 1);
        Check.fails("leave(1) again", STATE, () -> poll.leave(1));
        Check.same("leave(0)", poll.leave(0), 1);
        Check.same("marginIn then", poll.marginIn(0), 0);
        for (int no : NO_NUMBERS) {
            Check.fails("leave, no label", INDEX, () -> poll.leave(no));
        }
        Check.fails("leave(4)", INDEX, () -> poll.leave(4));
    }
}
