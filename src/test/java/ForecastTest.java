/** Promises 34 to 40: what would be, and the numbers at the end. */
final class ForecastTest {
    private static final Class<IndexOutOfBoundsException> INDEX = IndexOutOfBoundsException.class;
    private static final Class<IllegalArgumentException> ARGUMENT = IllegalArgumentException.class;
    private static final int[] NO_NUMBERS = {-1, Integer.MIN_VALUE, Integer.MAX_VALUE};
    private static final String THREE = "label a;label b;label c;";

    public static void main(String[] args) {
        promise34();
        promise35();
        promise36();
        promise37();
        promise38();
        promise39();
        promise40();
        nothingIsChanged();
        Check.finish();
    }

    /** Each day b wins 1 from a; on day 5, c joins b. */
    private static CupboardPoll moving() {
        return Books.taught(THREE + "jar j seats 3 by most holds 50,44,6;jar k seats 4 by divide holds 9;"
                + "lid l on j for b when 1=1(win 1 from a);lid m on k for c when day=5(join b);");
    }

    private static void promise34() {
        CupboardPoll poll = moving();
        Check.same("seatsAfter(1, 3): 47 to 47", poll.seatsAfter(1, 3), 0);
        Check.same("seatsAfter(0, 3)", poll.seatsAfter(0, 3), 7);
        Check.same("seatsAfter(1, 4): 46 to 48", poll.seatsAfter(1, 4), 3);
        Check.same("seatsAfter(2, 5)", poll.seatsAfter(2, 5), 0);
        Check.same("seatsAfter(2, 6): its alliance then", poll.seatsAfter(2, 6), 3);
        Check.same("seatsAfter(0, 60)", poll.seatsAfter(0, 60), 4);
        Check.same("seatsAfter(0, 1)", poll.seatsAfter(0, 1), 7);
        Check.same("days() stays", poll.days(), 0);
        Check.same("beansIn stays", poll.beansIn(0, 0), 50);
        Check.same("leaderOf stays", poll.leaderOf(2), 2);
        poll.pass(3);
        Check.same("seatsAfter(1, 1) from now on", poll.seatsAfter(1, 1), 3);
        poll.pour(0, 1, 0, 20);
        Check.same("seatsAfter(1, 1) behind pour", poll.seatsAfter(1, 1), 0);
        Check.fails("seatsAfter, 0 days", ARGUMENT, () -> poll.seatsAfter(0, 0));
        Check.fails("seatsAfter, 61 days", ARGUMENT, () -> poll.seatsAfter(0, 61));
        Check.fails("seatsAfter, -1 days", ARGUMENT, () -> poll.seatsAfter(0, -1));
        for (int no : NO_NUMBERS) {
            Check.fails("seatsAfter, no label", INDEX, () -> poll.seatsAfter(no, 1));
            Check.fails("seatsAfter, no label, no days: named first", INDEX, () -> poll.seatsAfter(no, 0));
        }
        Check.fails("seatsAfter(3, 1)", INDEX, () -> poll.seatsAfter(3, 1));
    }

    private static CupboardPoll slow(int beans) {
        return Books.taught("label a;label b;jar j seats 1 by most holds " + beans + ";"
                + "lid l on j for b when 1=1(win 1 from a);");
    }

    private static void promise35() {
        CupboardPoll poll = moving();
        Check.same("daysUntilMajority(0)", poll.daysUntilMajority(0), 0);
        Check.same("daysUntilMajority(1)", poll.daysUntilMajority(1), -1);
        CupboardPoll early = Books.taught("label a;label b;jar j seats 1 by most holds 5,4;"
                + "lid l on j for b when 1=1(win 1 from a);");
        Check.same("daysUntilMajority, 4 to 5", early.daysUntilMajority(1), 1);
        Check.same("daysUntilMajority of the one that has it", early.daysUntilMajority(0), 0);
        Check.same("days() stays", early.days(), 0);
        Check.same("beansIn stays", early.beansIn(0, 0), 5);
        // a keeps the first place as long as it has half of them
        Check.same("daysUntilMajority at 100", slow(199).daysUntilMajority(1), 100);
        Check.same("daysUntilMajority at 99", slow(197).daysUntilMajority(1), 99);
        Check.same("daysUntilMajority at 101", slow(200).daysUntilMajority(1), -1);
        CupboardPoll later = slow(200);
        later.pass(1);
        Check.same("daysUntilMajority a day later", later.daysUntilMajority(1), 100);
        CupboardPoll ally = Books.taught("label a;label b;jar j seats 1 by most holds 5;"
                + "lid l on j for b when day=7(join a);");
        Check.same("daysUntilMajority of its alliance then", ally.daysUntilMajority(1), 8);
        CupboardPoll passing = Books.taught("label a;label b;jar j seats 1 by most holds 5;"
                + "lid l on j for b when day=2(win 5 from a)when day=3(hop j);lid m on j for a when day=3(win 5 from b);");
        Check.same("daysUntilMajority, the first of days", passing.daysUntilMajority(1), 3);
        Check.same("daysUntilMajority without jars", Books.taught("label a;").daysUntilMajority(0), -1);
        for (int no : NO_NUMBERS) {
            Check.fails("daysUntilMajority, no label", INDEX, () -> poll.daysUntilMajority(no));
        }
        Check.fails("daysUntilMajority(3)", INDEX, () -> poll.daysUntilMajority(3));
    }

    private static CupboardPoll one(String holds) {
        return Books.taught(THREE + "jar j seats 1 by most holds " + holds + ";");
    }

    private static void promise36() {
        Check.same("beansToWin of the first", one("50,44,6").beansToWin(0, 0), 0);
        Check.same("beansToWin, 3 make it 47 to 47", one("50,44,6").beansToWin(0, 1), 4);
        Check.same("beansToWin, odd", one("51,44,6").beansToWin(0, 1), 4);
        Check.same("beansToWin, with the smaller number", one("44,50,6").beansToWin(0, 0), 3);
        Check.same("beansToWin, odd, with the smaller number", one("44,51,6").beansToWin(0, 0), 4);
        Check.same("beansToWin of equals", one("44,44,6").beansToWin(0, 1), 1);
        Check.same("beansToWin, over a third one", one("50,44,6").beansToWin(0, 2), 39);
        Check.same("beansToWin, over a third one, with the smaller number", one("6,44,50").beansToWin(0, 0), 38);
        Check.same("beansToWin, all of that one are enough", one("50,49,0").beansToWin(0, 2), 50);
        Check.same("beansToWin, all of that one are too few", one("50,50,0").beansToWin(0, 2), -1);
        Check.same("beansToWin, all, with the smaller number", one("0,50,50").beansToWin(0, 0), 50);
        Check.same("beansToWin without beans", one("0,0,0").beansToWin(0, 0), -1);
        Check.same("beansToWin of the only bean", one("1,0,0").beansToWin(0, 2), 1);
        Check.same("beansToWin of the only two beans", one("0,2,0").beansToWin(0, 0), 1);
        CupboardPoll poll = one("50,44,6");
        poll.join(2, 1);
        Check.same("beansToWin of an alliance", poll.beansToWin(0, 2), 1);
        Check.same("beansToWin of its leader", poll.beansToWin(0, 1), 1);
        poll.join(1, 0);
        Check.same("beansToWin in the first alliance", poll.beansToWin(0, 2), 0);
        for (int no : NO_NUMBERS) {
            Check.fails("beansToWin, no jar", INDEX, () -> poll.beansToWin(no, 0));
            Check.fails("beansToWin, no label", INDEX, () -> poll.beansToWin(0, no));
        }
        Check.fails("beansToWin(1, 0)", INDEX, () -> poll.beansToWin(1, 0));
        Check.fails("beansToWin(0, 3)", INDEX, () -> poll.beansToWin(0, 3));
    }

    private static void promise37() {
        CupboardPoll poll = Books.taught(THREE + "jar j seats 1 by most holds 50,44,6;jar k seats 9 by most holds 9,8,9;"
                + "jar m seats 1 by most holds 0,0;jar n seats 1 by most holds 0,7,7;jar o seats 1 by most holds 9,9,9;");
        Check.same("bestJarFor(0), where it is not the first", poll.bestJarFor(0), 3);
        Check.same("bestJarFor(1), of several the smallest", poll.bestJarFor(1), 1);
        Check.same("bestJarFor(2)", poll.bestJarFor(2), 1);
        poll.join(1, 2);
        Check.same("bestJarFor(1), its alliance", poll.bestJarFor(1), 0);
        CupboardPoll none = one("9,1,0");
        Check.same("bestJarFor of one that is first", none.bestJarFor(0), -1);
        Check.same("bestJarFor without beans", one("0,0,0").bestJarFor(0), -1);
        Check.same("bestJarFor where all are too few", one("9,9,0").bestJarFor(2), -1);
        Check.same("bestJarFor without jars", Books.taught("label a;").bestJarFor(0), -1);
        for (int no : NO_NUMBERS) {
            Check.fails("bestJarFor, no label", INDEX, () -> poll.bestJarFor(no));
        }
        Check.fails("bestJarFor(3)", INDEX, () -> poll.bestJarFor(3));
    }

    private static void promise38() {
        CupboardPoll poll = one("20,19,0");
        Check.same("firstShaken(0)", poll.firstShaken(0), 1);
        Check.same("beansIn stays", poll.beansIn(0, 0), 20);
        Check.same("firstIn stays", poll.firstIn(0), 0);
        poll.join(1, 0);
        Check.same("firstShaken(0) of an alliance", poll.firstShaken(0), 0);
        Check.same("firstShaken(0) is what shake tells", poll.shake(0), 0);
        Check.same("firstShaken without beans", one("0").firstShaken(0), -1);
        for (int no : NO_NUMBERS) {
            Check.fails("firstShaken, no jar", INDEX, () -> poll.firstShaken(no));
        }
        Check.fails("firstShaken(1)", INDEX, () -> poll.firstShaken(1));
    }

    private static void promise39() {
        Check.sameDouble("meanMargin() without jars", new CupboardPoll().meanMargin(), 0);
        Check.sameDouble("meanMargin() of one", one("50,44,6").meanMargin(), 6);
        CupboardPoll poll = Books.taught(THREE + "jar j seats 1 by most holds 50,44,6;jar k seats 1 by most holds 9,8,9;"
                + "jar m seats 1 by most holds 0,0;");
        Check.sameDouble("meanMargin() of three", poll.meanMargin(), 2);
        poll.pour(0, 1, 2, 1);
        Check.sameDouble("meanMargin(), not cut", poll.meanMargin(), 7.0 / 3);
        poll.join(0, 1);
        Check.sameDouble("meanMargin() of alliances", poll.meanMargin(), (93 - 7 + 17 - 9) / 3.0);
    }

    private static long digest(long... numbers) {
        long d = 1949;
        for (long x : numbers) {
            d = d * 31 + x;
        }
        return d;
    }

    private static void promise40() {
        Check.same("digest() of a new object", new CupboardPoll().digest(), digest(0, 0, 0, 0, 0, -1));
        CupboardPoll poll = Books.taught("label a;label b;jar j seats 3 by divide holds 20,19;"
                + "lid l on j for b when day=1(shake);");
        // shaken: 20 - 2 + 1 and 19 - 1 + 2; seats: 20 19 10
        Check.same("digest()", poll.digest(), digest(2, 1, 1, 0, 2, 0,
                0, 20, 2, 1, -1, 1, 19, 1, 0, 0,
                39, 3, 0, 1, 0, 1, 20, 2, 0, 19, 1, 1,
                0, 1, -1));
        poll.pass(1);
        poll.join(0, 1);
        Check.same("digest() of an alliance, on day 1", poll.digest(), digest(2, 1, 1, 1, 1, 1,
                1, 20, 3, 1, -1, 1, 19, 3, 1, -1,
                39, 3, 1, 39, 0, 1, 20, 3, 0, 19, 3, 0,
                0, 1, 0));
        CupboardPoll empty = Books.taught("label a;jar j seats 3 by quota holds 0;jar k seats 1 by most holds 4;");
        Check.same("digest() with an empty jar", empty.digest(), digest(1, 2, 0, 0, 1, 0,
                0, 4, 1, 0, -1,
                0, 3, -1, 0, 3, -1, 0, 0, -1,
                4, 1, 0, 4, 0, 0, 4, 1, 0));
    }

    private static void nothingIsChanged() {
        CupboardPoll poll = moving();
        long before = poll.digest();
        poll.seatsAfter(1, 30);
        poll.daysUntilMajority(1);
        poll.beansToWin(0, 1);
        poll.bestJarFor(1);
        poll.firstShaken(0);
        poll.meanMargin();
        poll.ruleOfLid(0);
        Check.same("digest() behind what would be", poll.digest(), before);
    }
}
