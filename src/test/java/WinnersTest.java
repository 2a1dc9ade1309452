/** Promises 17 to 24: who wins. */
final class WinnersTest {
    private static final Class<IndexOutOfBoundsException> INDEX = IndexOutOfBoundsException.class;
    private static final int[] NO_NUMBERS = {-1, Integer.MIN_VALUE, Integer.MAX_VALUE};
    private static final String THREE = "label a;label b;label c;";

    public static void main(String[] args) {
        promise17();
        promise18();
        promise19();
        promise20Most();
        promise20Divide();
        promise20Quota();
        promise20Wrong();
        promise21();
        promise22();
        promise23();
        promise24();
        Check.finish();
    }

    private static CupboardPoll one(int seats, String way, String holds) {
        return Books.taught(THREE + "jar j seats " + seats + " by " + way + " holds " + holds + ";");
    }

    private static void wins(String what, CupboardPoll poll, int... due) {
        int left = poll.seatsOf(0);
        for (int label = 0; label < due.length; label++) {
            Check.same(what + ": seatsWon(0, " + label + ")", poll.seatsWon(0, label), due[label]);
            if (poll.leaderOf(label) == label) {
                left -= due[label];
            }
        }
        Check.same(what + ": emptySeats(0)", poll.emptySeats(0), left);
    }

    private static void promise17() {
        CupboardPoll poll = one(1, "most", "10,12,12");
        Check.same("firstIn, of several the smallest", poll.firstIn(0), 1);
        poll.join(0, 2);
        Check.same("firstIn, told by the leader", poll.firstIn(0), 2);
        poll.leave(0);
        poll.join(0, 1);
        Check.same("firstIn of 22", poll.firstIn(0), 1);
        poll.leave(0);
        poll.pour(0, 1, 2, 1);
        Check.same("firstIn behind pour", poll.firstIn(0), 2);
        Check.same("firstIn without beans", one(1, "divide", "0,0").firstIn(0), -1);
        CupboardPoll tie = one(1, "most", "5,5,10");
        tie.join(0, 1);
        Check.same("firstIn, 10 to 10", tie.firstIn(0), 1);
        tie.leave(0);
        tie.join(1, 0);
        Check.same("firstIn, 10 to 10, by the leader's number", tie.firstIn(0), 0);
        CupboardPoll late = one(1, "most", "5,10,5");
        late.join(0, 2);
        Check.same("firstIn: the leader's number, not that of its labels", late.firstIn(0), 1);
        for (int no : NO_NUMBERS) {
            Check.fails("firstIn, no jar", INDEX, () -> poll.firstIn(no));
        }
        Check.fails("firstIn(1)", INDEX, () -> poll.firstIn(1));
    }

    private static void promise18() {
        CupboardPoll poll = one(1, "most", "10,12,31");
        Check.same("marginIn", poll.marginIn(0), 19);
        poll.join(0, 1);
        Check.same("marginIn to an alliance", poll.marginIn(0), 9);
        poll.join(1, 2);
        Check.same("marginIn without others", poll.marginIn(0), 53);
        Check.same("marginIn, the first one ahead", one(1, "most", "31,12,10").marginIn(0), 19);
        Check.same("marginIn of equals", one(1, "most", "4,9,9").marginIn(0), 0);
        Check.same("marginIn to none", one(1, "most", "0,7").marginIn(0), 7);
        Check.same("marginIn without beans", one(1, "quota", "0").marginIn(0), 0);
        Check.same("marginIn with one label",
                Books.taught("label a;jar j seats 1 by most holds 8;").marginIn(0), 8);
        for (int no : NO_NUMBERS) {
            Check.fails("marginIn, no jar", INDEX, () -> poll.marginIn(no));
        }
        Check.fails("marginIn(1)", INDEX, () -> poll.marginIn(1));
    }

    private static void promise19() {
        CupboardPoll poll = one(1, "most", "10,12,31");
        Check.same("allianceBeans of one label", poll.allianceBeans(0, 1), 12);
        poll.join(0, 2);
        Check.same("allianceBeans of one that follows", poll.allianceBeans(0, 0), 41);
        Check.same("allianceBeans of the leader", poll.allianceBeans(0, 2), 41);
        Check.same("allianceBeans of the other", poll.allianceBeans(0, 1), 12);
        for (int no : NO_NUMBERS) {
            Check.fails("allianceBeans, no jar", INDEX, () -> poll.allianceBeans(no, 0));
            Check.fails("allianceBeans, no label", INDEX, () -> poll.allianceBeans(0, no));
        }
        Check.fails("allianceBeans(1, 0)", INDEX, () -> poll.allianceBeans(1, 0));
        Check.fails("allianceBeans(0, 3)", INDEX, () -> poll.allianceBeans(0, 3));
    }

    private static void promise20Most() {
        wins("most", one(5, "most", "10,12,11"), 0, 5, 0);
        wins("most of equals", one(5, "most", "10,12,12"), 0, 5, 0);
        wins("most without beans", one(5, "most", "0,0,0"), 0, 0, 0);
        CupboardPoll poll = one(9, "most", "10,12,11");
        poll.join(0, 2);
        wins("most of an alliance", poll, 9, 0, 9);
    }

    private static void promise20Divide() {
        // 60 30 20, 50 25, 45 22.5: 60 50 45 30 25
        wins("divide", one(5, "divide", "60,50,45"), 2, 2, 1);
        // 100 50 33.3 25, 33: the third one is not cut
        wins("divide, not cut", one(4, "divide", "33,100,0"), 1, 3, 0);
        wins("divide, not cut, smaller number ahead", one(3, "divide", "101,33"), 3, 0, 0);
        wins("divide, cut they would be equal", one(3, "divide", "33,101"), 0, 3, 0);
        wins("divide of equals", one(1, "divide", "7,7,7"), 1, 0, 0);
        wins("divide of equals, two seats", one(2, "divide", "7,7,7"), 1, 1, 0);
        // 10 5 and 5: the seat behind goes to the smaller number
        wins("divide of equal shares", one(2, "divide", "10,5"), 2, 0, 0);
        wins("divide of equal shares, the other way round", one(2, "divide", "5,10"), 1, 1, 0);
        wins("divide, more seats than beans", one(9, "divide", "1,0,1"), 5, 0, 4);
        wins("divide, those without beans win none", one(9, "divide", "0,3"), 0, 9, 0);
        wins("divide without beans", one(9, "divide", "0,0"), 0, 0, 0);
        CupboardPoll poll = one(5, "divide", "60,50,45");
        poll.join(1, 2);
        // 95 47.5 31.6 23.75, 60 30: 95 60 47.5 31.6 30
        wins("divide to alliances", poll, 2, 3, 3);
    }

    private static void promise20Quota() {
        // quota 131 / 5 + 1 = 27: 0, 3, 1 with 10, 9, 4 left over; all four are gone
        wins("quota", one(4, "quota", "10,90,31"), 0, 3, 1);
        // quota 100 / 6 + 1 = 17: 2, 1, 1 with 8, 9, 15 left over
        wins("quota, most left over", one(5, "quota", "42,26,32"), 2, 1, 2);
        // quota 14 / 10 + 1 = 2: 3, 3 with 1, 1 left over; one seat stays empty
        wins("quota, nothing left over", one(9, "quota", "7,7"), 4, 4, 0);
        // quota 3 / 10 + 1 = 1: nothing is left over
        wins("quota of 1", one(9, "quota", "1,2"), 1, 2, 0);
        // quota 30 / 3 + 1 = 11: none wins at once, two of three equals win
        wins("quota of equals", one(2, "quota", "10,10,10"), 1, 1, 0);
        // quota 30 / 4 + 1 = 8: 0, 1, 2 with 5, 1, 0 left over; all three are gone
        wins("quota, all gone at once", one(3, "quota", "5,9,16"), 0, 1, 2);
        // quota 12 / 6 + 1 = 3: 1, 2, 0 with 1, 2, 0 left over
        wins("quota, each one at the most", one(5, "quota", "4,8,0"), 2, 3, 0);
        // quota 12 / 5 + 1 = 3: 2, 1, 0 with 0, 2, 1 left over
        wins("quota, one seat for the most left over", one(4, "quota", "6,5,1"), 2, 2, 0);
        // quota 6 / 6 + 1 = 2: 1, 1, 1 without anything left over
        wins("quota, 0 left over wins none", one(5, "quota", "2,2,2"), 1, 1, 1);
        wins("quota without beans", one(5, "quota", "0,0,0"), 0, 0, 0);
        CupboardPoll poll = one(5, "quota", "42,26,32");
        poll.join(0, 2);
        // 26 and 74: 1, 4 with 9, 6 left over
        wins("quota to alliances", poll, 4, 1, 4);
    }

    private static void promise20Wrong() {
        CupboardPoll poll = one(9, "divide", "1");
        for (int no : NO_NUMBERS) {
            Check.fails("seatsWon, no jar", INDEX, () -> poll.seatsWon(no, 0));
            Check.fails("seatsWon, no label", INDEX, () -> poll.seatsWon(0, no));
        }
        Check.fails("seatsWon(1, 0)", INDEX, () -> poll.seatsWon(1, 0));
        Check.fails("seatsWon(0, 3)", INDEX, () -> poll.seatsWon(0, 3));
    }

    private static void promise21() {
        Check.same("emptySeats, most", one(9, "most", "1").emptySeats(0), 0);
        Check.same("emptySeats, most without beans", one(9, "most", "0").emptySeats(0), 9);
        Check.same("emptySeats, divide", one(9, "divide", "1").emptySeats(0), 0);
        Check.same("emptySeats, divide without beans", one(8, "divide", "0").emptySeats(0), 8);
        Check.same("emptySeats, quota", one(9, "quota", "1,2").emptySeats(0), 6);
        Check.same("emptySeats, quota without beans", one(7, "quota", "0").emptySeats(0), 7);
        CupboardPoll poll = one(1, "most", "0");
        for (int no : NO_NUMBERS) {
            Check.fails("emptySeats, no jar", INDEX, () -> poll.emptySeats(no));
        }
        Check.fails("emptySeats(1)", INDEX, () -> poll.emptySeats(1));
    }

    private static CupboardPoll several() {
        return Books.taught(THREE + "jar j seats 3 by most holds 1,2,3;jar k seats 4 by most holds 2,1;"
                + "jar l seats 5 by divide holds 60,50,45;");
    }

    private static void promise22() {
        CupboardPoll poll = several();
        Check.same("seatsInAll(0)", poll.seatsInAll(0), 6);
        Check.same("seatsInAll(1)", poll.seatsInAll(1), 2);
        Check.same("seatsInAll(2)", poll.seatsInAll(2), 4);
        poll.join(1, 2);
        Check.same("seatsInAll(1), its alliance's", poll.seatsInAll(1), 6);
        Check.same("seatsInAll(2), the same", poll.seatsInAll(2), 6);
        Check.same("seatsInAll(0) then", poll.seatsInAll(0), 6);
        for (int no : NO_NUMBERS) {
            Check.fails("seatsInAll, no label", INDEX, () -> poll.seatsInAll(no));
        }
        Check.fails("seatsInAll(3)", INDEX, () -> poll.seatsInAll(3));
        Check.same("seatsInAll without jars", Books.taught("label a;").seatsInAll(0), 0);
    }

    private static void promise23() {
        Check.same("leading() without labels", new CupboardPoll().leading(), -1);
        Check.same("leading() without jars", Books.taught("label a;label b;").leading(), 0);
        CupboardPoll poll = several();
        Check.same("leading()", poll.leading(), 0);
        poll.join(1, 2);
        Check.same("leading(), of several the smallest", poll.leading(), 0);
        poll.join(0, 1);
        Check.same("leading() is a leader", poll.leading(), 2);
        CupboardPoll empty = Books.taught("label a;label b;jar j seats 1 by most holds 0;");
        empty.join(0, 1);
        Check.same("leading() without seats is a leader", empty.leading(), 1);
        Check.same("leading(), not the smallest", one(3, "most", "1,2,3").leading(), 2);
    }

    private static void promise24() {
        CupboardPoll poll = several();
        Check.same("hasMajority with 6 of 12", poll.hasMajority(0), false);
        poll.join(1, 0);
        // jar j: 3 to 3, the smaller number; jar k; jar l: 110 to 45
        Check.same("hasMajority with more", poll.hasMajority(0), true);
        Check.same("hasMajority of one that follows", poll.hasMajority(1), true);
        Check.same("hasMajority of the other", poll.hasMajority(2), false);
        CupboardPoll odd = Books.taught(THREE + "jar j seats 4 by most holds 1;jar k seats 3 by most holds 0,1;");
        Check.same("hasMajority with 4 of 7", odd.hasMajority(0), true);
        Check.same("hasMajority with 3 of 7", odd.hasMajority(1), false);
        CupboardPoll empty = Books.taught(THREE + "jar j seats 3 by most holds 1;jar k seats 3 by most holds 0;");
        Check.same("hasMajority, empty seats count", empty.hasMajority(0), false);
        Check.same("hasMajority without jars", Books.taught("label a;").hasMajority(0), false);
        for (int no : NO_NUMBERS) {
            Check.fails("hasMajority, no label", INDEX, () -> poll.hasMajority(no));
        }
        Check.fails("hasMajority(3)", INDEX, () -> poll.hasMajority(3));
    }
}
