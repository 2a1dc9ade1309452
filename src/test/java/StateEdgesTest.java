/** Parts 2 and 3 of the document and promises 6 to 40: the last case of one kind, and the first of the other. */
final class StateEdgesTest {
    private static final String SIX = "label a;label b;label c;label d;label e;label f;";
    private static final String[] BOOKS = {
        SIX + "jar g seats 9 by divide holds 10,20,30,40,50,69;jar h seats 8 by quota holds 200,1,99,0,7,45;"
            + "jar i seats 7 by most holds 0,0,0,0,0,200;lid l on g for f when day<30(shake win 4 from e hop h)"
            + "when first f(leave join a hop g);lid m on h for b when allied c(leave)when beans a>90(win 9 from a join c)"
            + "when 1=1(shake);",
        "label a;label b;jar j seats 1 by most holds 0;",
        "label a;label b;label c;jar j seats 5 by quota holds 3;jar k seats 3 by most holds 0,9;"
            + "lid l on k for a;lid m on j for b when turnout=3(win 1 from a)when 1=1(join c);",
        "", "label a;", "label a;label b;label c;jar j seats 2 by divide holds 7,8,9;jar k seats 2 by most holds 0;"
            + "jar m seats 9 by quota holds 0,0,1;lid l on j for a when day>1 and margin<9(win margin+1 from c hop k)"
            + "when 1=1(hop m shake);lid o on m for b when not allied a(join a)when day=5(leave win 1 from c);"
            + "lid p on k for c when seats a>seats b or day=3(join b)when seats c=0(leave);"};

    public static void main(String[] args) {
        booksBehindOthers();
        askedAhead();
        objectsApart();
        emptyJars();
        noJars();
        followersInChain();
        alliancesInMiddle();
        firstOfEquals();
        margins();
        divideForSeats();
        quotaForSeats();
        quotaEdges();
        shakeEdges();
        shakeSix();
        pourEdges();
        passEdges();
        seatsAfterEdges();
        forecastsComeTrue();
        majorities();
        majorityInDays();
        beansToWinEdges();
        bestJars();
        wrappedValues();
        winEdges();
        digests();
        Check.finish();
    }

    private static void holds(String what, CupboardPoll poll, int jar, int... due) {
        for (int label = 0; label < due.length; label++) {
            Check.same(what + ": beansIn(" + jar + ", " + label + ")", poll.beansIn(jar, label), due[label]);
        }
    }

    private static void wins(String what, CupboardPoll poll, int jar, int... due) {
        int left = poll.seatsOf(jar);
        for (int label = 0; label < due.length; label++) {
            Check.same(what + ": seatsWon(" + jar + ", " + label + ")", poll.seatsWon(jar, label), due[label]);
            left -= poll.leaderOf(label) == label ? due[label] : 0;
        }
        Check.same(what + ": emptySeats(" + jar + ")", poll.emptySeats(jar), left);
    }

    private static String labels(int count) {
        return SIX.substring(0, 8 * count);
    }

    /** One jar with these beans for as many labels. */
    private static CupboardPoll one(int seats, String way, String holds) {
        return Books.taught(labels(holds.split(",").length) + "jar j seats " + seats + " by " + way + " holds "
                + holds + ";");
    }

    private static String future(CupboardPoll poll, int days) {
        StringBuilder told = new StringBuilder();
        told.append(poll.digest()).append(' ').append(poll.meanMargin());
        for (int day = 0; day < days; day++) {
            told.append(' ').append(poll.pass(1)).append(' ').append(poll.digest());
        }
        return told.toString();
    }

    /** All begins anew with each book: nothing of the books before it is left. */
    private static void booksBehindOthers() {
        for (int first = 0; first < BOOKS.length; first++) {
            for (int second = 0; second < BOOKS.length; second++) {
                for (int third = 0; third < BOOKS.length; third++) {
                    CupboardPoll poll = Books.taught(BOOKS[first]);
                    poll.pass(7);
                    poll.digest();
                    Books.write(poll, BOOKS[second]);
                    poll.teach();
                    poll.pass(4);
                    if (poll.labels() > 1 && poll.leaderOf(1) == 1) {
                        poll.join(0, 1);
                    }
                    Books.write(poll, BOOKS[0] + "label");
                    poll.teach();
                    poll.digest();
                    Books.write(poll, BOOKS[third]);
                    poll.teach();
                    Check.same("days() anew", poll.days(), 0);
                    Check.same("alliances() anew", poll.alliances(), poll.labels());
                    Check.sameText("book " + third + " behind " + second + " and " + first, future(poll, 9),
                            future(Books.taught(BOOKS[third]), 9));
                }
            }
        }
    }

    /** What is asked ahead of a change must not be told behind it. */
    private static void askedAhead() {
        CupboardPoll asked = Books.taught(BOOKS[0]);
        CupboardPoll other = Books.taught(BOOKS[0]);
        for (int step = 0; step < 20; step++) {
            asked.digest();
            change(asked, step);
            if (step % 5 == 4) {
                asked.digest();
                other = Books.taught(BOOKS[0]);
                for (int n = 0; n <= step; n++) {
                    change(other, n);
                }
                Check.sameText("asked ahead of step " + step, future(asked, 0), future(other, 0));
            }
        }
        CupboardPoll poll = one(3, "divide", "20,19,1");
        Check.same("firstIn ahead of shake", poll.firstIn(0), 0);
        poll.shake(0);
        Check.same("firstIn behind shake", poll.firstIn(0), 1);
        poll.pour(0, 1, 0, 1);
        Check.same("firstIn behind pour", poll.firstIn(0), 0);
        poll.join(1, 2);
        Check.same("firstIn behind join", poll.firstIn(0), 2);
        poll.leave(1);
        Check.same("firstIn behind leave", poll.firstIn(0), 0);
    }

    private static void change(CupboardPoll poll, int step) {
        switch (step % 5) {
            case 0:
                poll.pour(step % 3, step % 6, (step + 1) % 6, 5 + step);
                break;
            case 1:
                poll.shake(step % 3);
                break;
            case 2:
                if (poll.leaderOf(4) != 3) {
                    poll.join(3, 4);
                }
                break;
            case 3:
                poll.pass(1 + step);
                break;
            default:
                if (poll.leaderOf(3) != 3) {
                    poll.leave(3);
                }
                poll.putLid(1, step % 3);
        }
    }

    private static void objectsApart() {
        CupboardPoll one = Books.taught(BOOKS[0]);
        CupboardPoll other = Books.taught(BOOKS[5]);
        String due = future(Books.taught(BOOKS[5]), 9);
        one.pass(5);
        one.join(3, 2);
        Books.write(one, "label a;");
        Check.sameText("one object behind what another did", future(other, 9), due);
        Check.same("its tape", other.trim(0), 0);
        Check.same("a new one", new CupboardPoll().labels(), 0);
    }

    private static void emptyJars() {
        for (String way : new String[] {"most", "divide", "quota"}) {
            for (int seats = 1; seats <= 9; seats++) {
                CupboardPoll poll = one(seats, way, "0,0,0");
                wins(way + " without beans", poll, 0, 0, 0, 0);
                Check.same("emptySeats(0)", poll.emptySeats(0), seats);
            }
            CupboardPoll poll = one(4, way, "0,0,0");
            Check.same("turnout(0) without beans", poll.turnout(0), 0);
            Check.same("firstIn(0) without beans", poll.firstIn(0), -1);
            Check.same("marginIn(0) without beans", poll.marginIn(0), 0);
            Check.same("shake(0) without beans", poll.shake(0), -1);
            Check.same("firstShaken(0) without beans", poll.firstShaken(0), -1);
            Check.same("pour without beans", poll.pour(0, 0, 1, 200), 0);
            Check.same("leading() without beans", poll.leading(), 0);
            Check.sameDouble("meanMargin() without beans", poll.meanMargin(), 0);
            poll.join(0, 2);
            for (int label = 0; label < 3; label++) {
                Check.same("allianceBeans without beans", poll.allianceBeans(0, label), 0);
                Check.same("beansToWin without beans", poll.beansToWin(0, label), -1);
                Check.same("bestJarFor without beans", poll.bestJarFor(label), -1);
                Check.same("hasMajority without beans", poll.hasMajority(label), false);
                Check.same("daysUntilMajority without beans", poll.daysUntilMajority(label), -1);
                Check.same("seatsAfter without beans", poll.seatsAfter(label, 60), 0);
            }
            Check.same("firstIn(0) of an alliance without beans", poll.firstIn(0), -1);
            Check.same("leading() of an alliance without beans", poll.leading(), 1);
        }
        CupboardPoll test = Books.taught("label a;label b;jar j seats 3 by most holds 0;"
                + "lid l on j for a when first a or first b(shake)when margin=0 and turnout=0 and seats a=0(win 5 from b);");
        Check.same("ruleOfLid(0) on a jar without beans", test.ruleOfLid(0), 1);
        Check.same("pass(1) on a jar without beans", test.pass(1), 1);
        // one bean is enough to be first
        for (String way : new String[] {"most", "divide", "quota"}) {
            CupboardPoll poll = one(1, way, "0,0,1");
            Check.same("firstIn(0) of a bean", poll.firstIn(0), 2);
            Check.same("marginIn(0) of a bean", poll.marginIn(0), 1);
            wins(way + " of a bean", poll, 0, 0, 0, 1);
        }
    }

    private static void noJars() {
        CupboardPoll poll = Books.taught("label a;label b;");
        Check.same("beansOf(1) without jars", poll.beansOf(1), 0);
        Check.same("seatsInAll(1) without jars", poll.seatsInAll(1), 0);
        Check.same("hasMajority(1) without jars", poll.hasMajority(1), false);
        Check.same("leading() without jars", poll.leading(), 0);
        Check.same("bestJarFor(1) without jars", poll.bestJarFor(1), -1);
        Check.same("seatsAfter(1, 60) without jars", poll.seatsAfter(1, 60), 0);
        Check.same("daysUntilMajority(1) without jars", poll.daysUntilMajority(1), -1);
        Check.sameDouble("meanMargin() without jars", poll.meanMargin(), 0);
        Check.same("pass(60) without jars", poll.pass(60), 0);
        Check.same("join(0, 1) without jars", poll.join(0, 1), 1);
        Check.same("leading() then", poll.leading(), 1);
        Check.same("leading() without labels", Books.taught("").leading(), -1);
    }

    /** Labels that follow each other over others, up to all six. */
    private static void followersInChain() {
        for (int count = 2; count <= 6; count++) {
            StringBuilder numbers = new StringBuilder("1");
            for (int n = 1; n < count; n++) {
                numbers.append(',').append(1 << n);
            }
            CupboardPoll poll = one(3, "most", numbers.toString());
            for (int label = 0; label < count - 1; label++) {
                Check.same("join", poll.join(label, label + 1), label + 1);
                Check.same("alliances()", poll.alliances(), count - label - 1);
                Check.same("allianceBeans of all so far", poll.allianceBeans(0, 0), (2 << label + 1) - 1);
            }
            for (int label = 0; label < count; label++) {
                int each = label;
                int last = count - 1;
                Check.same("leaderOf in the chain", poll.leaderOf(label), last);
                Check.same("areAllied in the chain", poll.areAllied(0, label), true);
                Check.same("seatsWon in the chain", poll.seatsWon(0, label), 3);
                Check.same("allianceBeans in the chain", poll.allianceBeans(0, label), (1 << count) - 1);
                Check.same("beansToWin in the chain", poll.beansToWin(0, label), 0);
                Check.fails("join to one in the chain", IllegalStateException.class, () -> poll.join(last, each));
            }
            Check.same("marginIn of all in one", poll.marginIn(0), (1 << count) - 1);
            Check.same("leave at the end of the chain", poll.leave(count - 2), count - 1);
            Check.same("leaderOf(0) then", poll.leaderOf(0), count - 2);
            Check.same("join of the one that was ahead of all", poll.join(count - 1, 0), count - 2);
            Check.same("leaderOf the one that was ahead of all", poll.leaderOf(count - 1), count - 2);
        }
    }

    private static void alliancesInMiddle() {
        CupboardPoll poll = one(1, "most", "1,2,4,8,16,32");
        poll.join(0, 3);
        poll.join(1, 3);
        poll.join(3, 5);
        poll.join(2, 4);
        Check.same("alliances() of 4 and 2", poll.alliances(), 2);
        Check.same("allianceBeans of 4", poll.allianceBeans(0, 0), 43);
        Check.same("allianceBeans of 2", poll.allianceBeans(0, 4), 20);
        Check.same("join of one in the middle to another one", poll.join(3, 4), 4);
        Check.same("allianceBeans behind that: its followers come with it", poll.allianceBeans(0, 1), 31);
        Check.same("allianceBeans of the one that was left", poll.allianceBeans(0, 5), 32);
        Check.same("join of the same one again", poll.join(3, 4), 4);
        Check.same("alliances() then", poll.alliances(), 2);
        Check.same("leave of one in the middle", poll.leave(3), 4);
        Check.same("allianceBeans of one in the middle", poll.allianceBeans(0, 3), 11);
        Check.same("alliances() of 3, 2 and 1", poll.alliances(), 3);
        Check.same("join to one that follows another one", poll.join(5, 0), 3);
        Check.same("leave tells whom it followed, not the leader", poll.leave(5), 0);
        CupboardPoll lids = Books.taught("label a;label b;label c;jar j seats 1 by most holds 1;"
                + "lid l on j for a when day=0(join b)when day=1(join a)when day=2(join c)when day=3(join c)"
                + "when day=4(leave)when day=5(leave)when day=6(join b)when day=7(join c);"
                + "lid m on j for b when day=0(join a)when day=6(join c);"
                + "lid o on j for c when day=6(join a)when day=7(join a)when day=8(join b);");
        int[][] leaders = {{1, 1, 2}, {1, 1, 2}, {2, 1, 2}, {2, 1, 2}, {0, 1, 2}, {0, 1, 2}, {2, 2, 2}, {2, 2, 2},
            {2, 2, 2}};
        int[] acts = {2, 1, 1, 1, 1, 1, 3, 2, 1};
        for (int day = 0; day < leaders.length; day++) {
            Check.same("pass(1) of joins, day " + day, lids.pass(1), acts[day]);
            for (int label = 0; label < 3; label++) {
                Check.same("leaderOf behind day " + day, lids.leaderOf(label), leaders[day][label]);
            }
        }
    }

    private static void firstOfEquals() {
        Check.same("firstIn of six equals", one(1, "most", "7,7,7,7,7,7").firstIn(0), 0);
        Check.same("firstIn of the last two", one(1, "most", "6,6,6,6,7,7").firstIn(0), 4);
        Check.same("firstIn, the last one by one", one(1, "most", "7,7,7,7,7,8").firstIn(0), 5);
        Check.same("firstIn, the first one by one", one(1, "most", "8,7,7,7,7,7").firstIn(0), 0);
        CupboardPoll poll = one(1, "most", "3,5,5,2");
        poll.join(0, 3);
        Check.same("firstIn, 5 to 5 to 5: by the leaders' numbers", poll.firstIn(0), 1);
        poll.leave(0);
        poll.join(3, 0);
        Check.same("firstIn, 5 to 5 to 5: the leader is 0", poll.firstIn(0), 0);
        CupboardPoll lead = Books.taught("label a;label b;label c;jar j seats 2 by most holds 0,1;"
                + "jar k seats 2 by most holds 0,0,1;jar m seats 1 by most holds 1;");
        Check.same("leading(), of several the smallest", lead.leading(), 1);
        lead.join(0, 2);
        Check.same("leading() by one seat", lead.leading(), 2);
        lead.join(1, 2);
        Check.same("leading() of one alliance", lead.leading(), 2);
    }

    private static void margins() {
        Check.same("marginIn of two equals", one(1, "most", "9,9").marginIn(0), 0);
        Check.same("marginIn by 1", one(1, "most", "8,9").marginIn(0), 1);
        Check.same("marginIn, the second one is the last", one(1, "most", "9,1,8").marginIn(0), 1);
        Check.same("marginIn, the second one is the first", one(1, "most", "8,1,9").marginIn(0), 1);
        Check.same("marginIn to those without beans", one(1, "most", "0,9,0").marginIn(0), 9);
        CupboardPoll poll = one(1, "most", "5,4,3,2");
        poll.join(1, 2);
        Check.same("marginIn of an alliance", poll.marginIn(0), 2);
        poll.join(3, 0);
        Check.same("marginIn of two alliances", poll.marginIn(0), 0);
        Check.sameDouble("meanMargin() of 0 and 1", Books.taught("label a;label b;jar j seats 1 by most holds 9,9;"
                + "jar k seats 1 by most holds 8,9;").meanMargin(), 0.5);
        Check.sameDouble("meanMargin() of three", Books.taught("label a;label b;jar j seats 1 by most holds 9,8;"
                + "jar k seats 9 by most holds 8,9;jar m seats 1 by most holds 0;").meanMargin(), 2.0 / 3);
    }

    /** 100, 60 and 34: 100 60 50 34 33.3 30 25 20 20. */
    private static void divideForSeats() {
        int[][] due = {{1, 0, 0}, {1, 1, 0}, {2, 1, 0}, {2, 1, 1}, {3, 1, 1}, {3, 2, 1}, {4, 2, 1}, {5, 2, 1}, {5, 3, 1}};
        for (int seats = 1; seats <= 9; seats++) {
            wins("divide " + seats, one(seats, "divide", "100,60,34"), 0, due[seats - 1]);
        }
        wins("divide of shares that differ by less than 1", one(3, "divide", "99,199"), 0, 1, 2);
        wins("divide of shares that differ by less than 1", one(3, "divide", "100,199"), 0, 1, 2);
        wins("divide of equal shares", one(2, "divide", "100,200"), 0, 1, 1);
        wins("divide of equal shares", one(2, "divide", "200,100"), 0, 2, 0);
        wins("divide of equal shares, the last one", one(2, "divide", "99,200"), 0, 0, 2);
        wins("divide of six equals", one(9, "divide", "1,1,1,1,1,1"), 0, 2, 2, 2, 1, 1, 1);
        wins("divide without beans for some", one(9, "divide", "0,1,0,0,200,0"), 0, 0, 0, 0, 0, 9, 0);
        CupboardPoll poll = one(4, "divide", "50,60,34,10");
        poll.join(0, 3);
        // 60 60 34 30 30
        wins("divide of alliances, of equals the smaller leader", poll, 0, 1, 2, 1, 1);
    }

    private static void quotaForSeats() {
        // 100, 60 and 34 of 194: quota 98 65 49 39 33 28 25 22 20
        int[][] due = {{1, 0, 0}, {1, 1, 0}, {2, 1, 0}, {2, 1, 1}, {3, 1, 1}, {3, 2, 1}, {4, 2, 1}, {4, 3, 1}, {5, 3, 1}};
        for (int seats = 1; seats <= 9; seats++) {
            wins("quota " + seats, one(seats, "quota", "100,60,34"), 0, due[seats - 1]);
        }
    }

    private static void quotaEdges() {
        // 12 / 3 + 1 = 5: 5 are enough, 4 are not
        wins("quota of 5, reached", one(2, "quota", "5,7"), 0, 1, 1);
        // left over 4 and 3: to 0 and 1
        wins("quota of 5, not reached", one(2, "quota", "4,8"), 0, 1, 1);
        // 11 / 3 + 1 = 4: 1 and 1, left over 0 and 3
        wins("quota is cut", one(2, "quota", "4,7"), 0, 1, 1);
        // 11 / 4 + 1 = 3: 1, 2; left over 1, 2, nothing is left to win
        wins("quota wins all", one(3, "quota", "4,7,0"), 0, 1, 2, 0);
        // 10 / 10 + 1 = 2: 1 2 1 with 1 0 1 left over, 5 to go: two of them are won
        wins("quota, seats that stay empty", one(9, "quota", "3,4,3"), 0, 2, 2, 2);
        // 9 / 10 + 1 = 1: all at once
        wins("quota of 1", one(9, "quota", "3,4,2"), 0, 3, 4, 2);
        // 20 / 10 + 1 = 3: 3 1 1 1 with 1 2 1 1, one seat more than those left over
        wins("quota, all of those left over", one(9, "quota", "10,5,3,2"), 0, 4, 2, 1, 1);
        // 21 / 3 + 1 = 8: none, left over 7 each
        wins("quota, of equals the smaller ones", one(2, "quota", "0,7,7,7"), 0, 0, 1, 1, 0);
        // 21 / 2 + 1 = 11: 11 is just enough
        wins("quota, reached exactly", one(1, "quota", "10,11"), 0, 0, 1);
        wins("quota, one left over more", one(1, "quota", "6,7,8"), 0, 0, 0, 1);
        CupboardPoll poll = one(2, "quota", "6,8,6,1");
        poll.join(2, 3);
        // 21 / 3 + 1 = 8: 8 is one seat, 6 and 7 are left over
        wins("quota of alliances", poll, 0, 0, 1, 1, 1);
        CupboardPoll equals = one(1, "quota", "4,5,5,1");
        equals.join(0, 3);
        // 15 / 2 + 1 = 8: left over 5 and 5 and 5, by the leaders' numbers
        wins("quota of equal alliances", equals, 0, 0, 1, 0, 0);
    }

    private static void shakeEdges() {
        for (int beans = 0; beans <= 200; beans += beans < 31 ? 1 : 13) {
            CupboardPoll poll = one(1, "most", beans + ",0");
            poll.shake(0);
            holds("shake of " + beans, poll, 0, beans - beans / 10, beans / 10);
            poll = one(1, "most", "0," + beans);
            poll.shake(0);
            holds("shake of the last " + beans, poll, 0, beans / 10, beans - beans / 10);
            poll = one(1, "most", "" + beans);
            Check.same("shake of one label", poll.shake(0), beans == 0 ? -1 : 0);
            holds("shake of one label", poll, 0, beans);
        }
        CupboardPoll once = one(1, "most", "9,10,0");
        once.shake(0);
        // all at once: what comes does not go on
        holds("shake all at once", once, 0, 9, 9, 1);
        CupboardPoll heap = one(1, "most", "200,200,200");
        heap.pour(0, 1, 0, 200);
        heap.pour(0, 2, 0, 199);
        // 599, 0 and 1
        Check.same("firstShaken(0) of a heap", heap.firstShaken(0), 0);
        heap.shake(0);
        holds("shake of a heap", heap, 0, 540, 59, 1);
        CupboardPoll turn = one(1, "most", "0,20,19");
        Check.same("firstShaken(0) that turns", turn.firstShaken(0), 2);
        Check.same("firstIn(0) stays", turn.firstIn(0), 1);
        Check.same("shake(0) that turns", turn.shake(0), 2);
        CupboardPoll many = Books.taught("label a;label b;jar j seats 1 by most holds 50;jar k seats 1 by most holds 60;"
                + "jar m seats 1 by most holds 70;");
        many.shake(1);
        holds("shake of another jar", many, 0, 50, 0);
        holds("shake of the second jar", many, 1, 54, 6);
        holds("shake of another jar", many, 2, 70, 0);
    }

    private static void shakeSix() {
        CupboardPoll poll = one(1, "most", "10,29,30,199,9,150");
        poll.shake(0);
        // 1 2 3 19 0 15
        holds("shake of six", poll, 0, 24, 28, 29, 183, 28, 135);
        Check.same("turnout(0) behind shake", poll.turnout(0), 427);
        CupboardPoll last = one(1, "most", "0,0,0,0,0,200");
        last.shake(0);
        holds("shake of the sixth", last, 0, 20, 0, 0, 0, 0, 180);
    }

    private static void pourEdges() {
        CupboardPoll poll = one(1, "most", "200,5,0");
        Check.same("pour of 1", poll.pour(0, 0, 1, 1), 1);
        holds("pour of 1", poll, 0, 199, 6, 0);
        Check.same("pour of 200 of 199", poll.pour(0, 0, 1, 200), 199);
        holds("pour of 200 of 199", poll, 0, 0, 205, 0);
        Check.same("pour of 1 of 0", poll.pour(0, 0, 1, 1), 0);
        Check.same("pour of 200 of 205", poll.pour(0, 1, 2, 200), 200);
        holds("pour of 200 of 205", poll, 0, 0, 5, 200);
        Check.same("pour of 200 of 200", poll.pour(0, 2, 0, 200), 200);
        Check.same("pour of 5 of 5", poll.pour(0, 1, 2, 5), 5);
        holds("pour of 5 of 5", poll, 0, 200, 0, 5);
        Check.same("pour of 6 of 5", poll.pour(0, 2, 1, 6), 5);
        holds("pour of 6 of 5", poll, 0, 200, 5, 0);
        Check.same("pour of 4 of 5", poll.pour(0, 1, 0, 4), 4);
        holds("pour of 4 of 5", poll, 0, 204, 1, 0);
        poll.join(0, 1);
        Check.same("pour in an alliance", poll.pour(0, 0, 1, 3), 3);
        holds("pour in an alliance", poll, 0, 201, 4, 0);
        for (int beans : new int[] {0, 201, -1}) {
            Check.fails("pour of " + beans, IllegalArgumentException.class, () -> poll.pour(0, 0, 1, beans));
        }
    }

    private static CupboardPoll slow(int beans) {
        return Books.taught("label a;label b;jar j seats 1 by most holds " + beans + ";"
                + "lid l on j for b when 1=1(win 1 from a);");
    }

    private static void passEdges() {
        CupboardPoll poll = slow(200);
        Check.same("pass(1)", poll.pass(1), 1);
        Check.same("days() behind pass(1)", poll.days(), 1);
        holds("pass(1)", poll, 0, 199, 1);
        Check.same("pass(60)", poll.pass(60), 60);
        Check.same("days() behind pass(60)", poll.days(), 61);
        holds("pass(60)", poll, 0, 139, 61);
        for (int days : new int[] {0, 61}) {
            Check.fails("pass(" + days + ")", IllegalArgumentException.class, () -> poll.pass(days));
            holds("a refused pass", poll, 0, 139, 61);
        }
        Check.same("days() behind refused ones", poll.days(), 61);
        CupboardPoll days = Books.taught("label a;jar j seats 1 by most holds 1;lid l on j for a when day=0(leave)"
                + "when day=59(leave leave)when day=60(leave leave leave)when day=61(shake shake shake shake);");
        Check.same("pass(59): day 0 to 58", days.pass(59), 1);
        Check.same("pass(1): day 59", days.pass(1), 2);
        Check.same("pass(1): day 60", days.pass(1), 3);
        Check.same("pass(60): day 61 to 120", days.pass(60), 4);
        Check.same("a new object lets days pass", new CupboardPoll().pass(60), 0);
    }

    private static void seatsAfterEdges() {
        // the first label keeps its place as long as it has half of them
        Check.same("seatsAfter(1, 59) of 118", slow(118).seatsAfter(1, 59), 0);
        Check.same("seatsAfter(1, 60) of 118", slow(118).seatsAfter(1, 60), 1);
        Check.same("seatsAfter(1, 60) of 119", slow(119).seatsAfter(1, 60), 1);
        Check.same("seatsAfter(1, 60) of 120", slow(120).seatsAfter(1, 60), 0);
        Check.same("seatsAfter(1, 1) of 1", slow(1).seatsAfter(1, 1), 1);
        Check.same("seatsAfter(1, 1) of 2", slow(2).seatsAfter(1, 1), 0);
        Check.same("seatsAfter(0, 1) of 2", slow(2).seatsAfter(0, 1), 1);
        for (int days : new int[] {0, 61}) {
            Check.fails("seatsAfter(1, " + days + ")", IllegalArgumentException.class,
                    () -> slow(9).seatsAfter(1, days));
        }
    }

    /** What would be is what comes, also behind what was done by hand. */
    private static void forecastsComeTrue() {
        for (int book : new int[] {0, 2, 5}) {
            for (int days = 1; days <= 60; days += days < 12 ? 1 : 12) {
                for (int hand = 0; hand < 3; hand++) {
                    CupboardPoll poll = byHand(book, hand);
                    CupboardPoll asked = byHand(book, hand);
                    poll.pass(days);
                    for (int label = 0; label < asked.labels(); label++) {
                        Check.same("seatsAfter(" + label + ", " + days + ")", asked.seatsAfter(label, days),
                                poll.seatsInAll(label));
                    }
                }
            }
            for (int hand = 0; hand < 3; hand++) {
                CupboardPoll asked = byHand(book, hand);
                for (int label = 0; label < asked.labels(); label++) {
                    CupboardPoll poll = byHand(book, hand);
                    int days = 0;
                    for (; days <= 100 && !poll.hasMajority(label); days++) {
                        poll.pass(1);
                    }
                    Check.same("daysUntilMajority(" + label + ")", asked.daysUntilMajority(label),
                            days > 100 ? -1 : days);
                }
            }
        }
    }

    private static CupboardPoll byHand(int book, int hand) {
        CupboardPoll poll = Books.taught(BOOKS[book]);
        if (hand > 0) {
            poll.join(2, 1);
            poll.join(1, 0);
            poll.pass(3);
            poll.putLid(0, 1);
            poll.pour(0, 0, 2, 9);
        }
        if (hand > 1) {
            poll.pass(1);
            poll.shake(1);
            if (poll.leaderOf(1) != 1) {
                poll.leave(1);
            }
        }
        return poll;
    }

    private static CupboardPoll seats(int one, int other) {
        return Books.taught("label a;label b;jar j seats " + one + " by most holds 1;jar k seats " + other
                + " by most holds 0,1;");
    }

    private static void majorities() {
        for (int one = 1; one <= 9; one++) {
            for (int other = 1; other <= 9; other++) {
                CupboardPoll poll = seats(one, other);
                Check.same("hasMajority with " + one + " to " + other, poll.hasMajority(0), one > other);
                Check.same("hasMajority against " + one + " to " + other, poll.hasMajority(1), other > one);
                Check.same("leading() of " + one + " to " + other, poll.leading(), other > one ? 1 : 0);
            }
        }
        // 4 of 8, since empty seats count; then 5 of 9
        CupboardPoll half = Books.taught("label a;jar j seats 4 by most holds 1;jar k seats 4 by most holds 0;");
        Check.same("hasMajority with the half, the other one is empty", half.hasMajority(0), false);
        Check.same("daysUntilMajority with the half", half.daysUntilMajority(0), -1);
        CupboardPoll more = Books.taught("label a;jar j seats 5 by most holds 1;jar k seats 4 by most holds 0;");
        Check.same("hasMajority with 5 of 9", more.hasMajority(0), true);
        CupboardPoll rest = one(9, "quota", "2,2");
        // 4 / 10 + 1 = 1: 2 and 2 of 9
        Check.same("hasMajority with all seats that are won but not of all", rest.hasMajority(0), false);
        rest.join(1, 0);
        Check.same("hasMajority with 4 of 9", rest.hasMajority(1), false);
        CupboardPoll five = one(9, "quota", "2,3");
        five.join(0, 1);
        Check.same("hasMajority with 5 of 9, of an alliance", five.hasMajority(0), true);
    }

    private static void majorityInDays() {
        int[] beans = {1, 2, 3, 4, 119, 120, 196, 197, 198, 199, 200};
        for (int each : beans) {
            // it has more than half as soon as it has more than each / 2
            int days = each / 2 + 1;
            Check.same("daysUntilMajority(1) of " + each, slow(each).daysUntilMajority(1), days > 100 ? -1 : days);
            Check.same("daysUntilMajority(0) of " + each, slow(each).daysUntilMajority(0), 0);
        }
        CupboardPoll on99 = Books.taught("label a;label b;jar j seats 1 by most holds 5;"
                + "lid l on j for b when day=99(win 5 from a)when day=100(hop j);");
        Check.same("daysUntilMajority by day 99", on99.daysUntilMajority(1), 100);
        Check.same("days() stays", on99.days(), 0);
        CupboardPoll on100 = Books.taught("label a;label b;jar j seats 1 by most holds 5;"
                + "lid l on j for b when day=100(win 5 from a);");
        Check.same("daysUntilMajority by day 100", on100.daysUntilMajority(1), -1);
        on100.pass(1);
        Check.same("daysUntilMajority by day 100, from day 1", on100.daysUntilMajority(1), 100);
        CupboardPoll half = Books.taught("label a;label b;jar j seats 1 by most holds 5;jar k seats 1 by most holds 0,1;"
                + "lid l on j for b when day=3(win 5 from a);");
        Check.same("daysUntilMajority with the half at first", half.daysUntilMajority(1), 4);
        Check.same("daysUntilMajority with the half and less", half.daysUntilMajority(0), -1);
    }

    private static void beansToWinEdges() {
        int[][] cases = {
            // beans of four labels, jar's first, label, due
            {50, 44, 6, 0, 0, 0}, {50, 44, 6, 0, 1, 4}, {50, 44, 6, 0, 2, 39}, {50, 44, 6, 0, 3, 45},
            {44, 50, 6, 0, 0, 3}, {44, 50, 6, 0, 1, 0}, {44, 50, 6, 0, 2, 39}, {44, 50, 6, 0, 3, 45},
            {6, 44, 50, 0, 0, 38}, {6, 44, 0, 50, 2, 45}, {0, 44, 50, 6, 0, 44}, {1, 1, 1, 1, 3, 1},
            {1, 1, 0, 1, 2, -1}, {0, 1, 1, 0, 0, 1}, {0, 1, 1, 1, 0, 1}, {2, 2, 2, 0, 3, -1}, {3, 2, 2, 0, 3, 3},
            {0, 5, 4, 0, 0, 4}, {4, 5, 0, 0, 2, 5}, {4, 4, 0, 0, 2, -1}, {5, 5, 5, 5, 1, 1}, {0, 0, 0, 1, 0, 1},
            {1, 0, 0, 0, 3, 1}, {0, 0, 0, 2, 0, 1}, {2, 0, 0, 0, 3, 2}, {3, 0, 0, 0, 3, 2}, {0, 0, 3, 0, 1, 2},
            {0, 4, 0, 0, 0, 2}, {0, 4, 0, 0, 2, 3}, {200, 200, 0, 0, 1, 1}, {199, 200, 0, 0, 0, 1}};
        for (int[] each : cases) {
            String numbers = each[0] + "," + each[1] + "," + each[2] + "," + each[3];
            Check.same("beansToWin(0, " + each[4] + ") of " + numbers, one(1, "most", numbers).beansToWin(0, each[4]),
                    each[5]);
        }
        CupboardPoll poll = one(1, "most", "3,10,3,4,0");
        poll.join(0, 3);
        // alliances: 7 of 0 and 3, 10, 3, 0; 3 against 1: 8 to 9 are not enough, 9 to 8 are
        Check.same("beansToWin of an alliance", poll.beansToWin(0, 0), 2);
        Check.same("beansToWin of its leader", poll.beansToWin(0, 3), 2);
        Check.same("beansToWin over an alliance", poll.beansToWin(0, 2), 4);
        Check.same("beansToWin over an alliance with a smaller number", poll.beansToWin(0, 4), 8);
        poll.leave(0);
        poll.join(3, 0);
        // now its leader is 0, and an equal one wins
        Check.same("beansToWin of the other leader", poll.beansToWin(0, 3), 2);
        Check.same("beansToWin over the other leader", poll.beansToWin(0, 2), 5);
        poll.pour(0, 1, 4, 1);
        Check.same("beansToWin, 9 to 7: an equal one with a smaller number", poll.beansToWin(0, 0), 1);
    }

    private static void bestJars() {
        CupboardPoll poll = Books.taught("label a;label b;label c;jar i seats 1 by most holds 0;"
                + "jar j seats 1 by most holds 9,5,5;jar k seats 1 by most holds 5,9;jar m seats 1 by most holds 7,5;"
                + "jar n seats 1 by most holds 9,7;jar o seats 9 by most holds 0,9;");
        // a: -1 0 2 0 0 5, b: -1 3 0 2 2 0, c: -1 3 6 6 8 5
        Check.same("bestJarFor(0), not those where it is first", poll.bestJarFor(0), 2);
        Check.same("bestJarFor(1), of several the smallest", poll.bestJarFor(1), 3);
        Check.same("bestJarFor(2)", poll.bestJarFor(2), 1);
        int[][] due = {{-1, 0, 2, 0, 0, 5}, {-1, 3, 0, 2, 2, 0}, {-1, 3, 6, 6, 8, 5}};
        for (int label = 0; label < 3; label++) {
            for (int jar = 0; jar < 6; jar++) {
                Check.same("beansToWin(" + jar + ", " + label + ")", poll.beansToWin(jar, label), due[label][jar]);
            }
        }
        CupboardPoll last = Books.taught("label a;label b;jar i seats 1 by most holds 1;jar j seats 1 by most holds 1;"
                + "jar k seats 1 by most holds 1;jar m seats 1 by most holds 1;jar n seats 1 by most holds 1;"
                + "jar o seats 1 by most holds 1;jar p seats 1 by most holds 1;jar q seats 1 by most holds 0,1;");
        Check.same("bestJarFor(0), the eighth", last.bestJarFor(0), 7);
        Check.same("bestJarFor(1), the first", last.bestJarFor(1), 0);
    }

    private static void holds(String test) {
        Check.same(test, Books.taught("label a;label b;jar j seats 1 by most holds 40,35;lid l on j for b when " + test
                + "();").ruleOfLid(0), 0);
    }

    /** Values wrap around in 32 bits. */
    private static void wrappedValues() {
        String low = "8192*8192*32";
        String high = "(8192*8192*32-1)";
        holds(low + "<0");
        holds(high + ">0");
        holds(high + "+1=" + low);
        holds(low + "-1=" + high);
        holds("0-" + low + "=" + low);
        holds("0-" + high + "=" + low + "+1");
        holds(high + "+" + high + "+2=0");
        holds(low + "+" + low + "=0");
        holds(low + "*2=0");
        holds(high + "*2+2=0");
        holds(high + "*" + high + "=1");
        holds(low + "*(0-1)=" + low);
        holds("8192*8*8192*8=0");
        holds("8192*8*8192*4=" + low);
        holds("8192*8*8192*2=8192*8192*16");
        // 9999 * 9999 * 21 is 2099580021
        holds("9999*9999*21>0");
        // 9999 * 9999 * 22 is 2199560022, which is 2^31 + 52076374
        holds("9999*9999*22<0");
        holds("9999*9999*22=" + low + "+5207*5000*2+6374");
        // 9999 * 9999 * 43 is 4299140043, which is 2^32 + 4172747
        holds("9999*9999*43=417*5000*2+2747");
        holds(low + "<1");
        holds(low + "<" + high);
        holds(high + ">" + low);
        holds("not " + low + ">1");
        holds("not " + high + "<0-1");
        holds("not " + low + "=0");
        holds("0-1<0");
        holds("0-9999<0-9998");
        holds("2-3*4=0-10");
        holds("(2-3)*4=0-4");
        holds("beans a*8192*8192*32=0 and beans b*8192*8192*32=" + low);
    }

    private static void winEdges() {
        String[] values = {"0-1", "0", "1", "19", "20", "21", "9999", "8192*8192*32", "8192*8192*32-1", "0-9999",
            "8192*8192*64+3", "beans a", "beans a-1", "beans a+1"};
        int[] won = {0, 0, 1, 19, 20, 20, 20, 0, 20, 0, 3, 20, 19, 20};
        for (int n = 0; n < values.length; n++) {
            CupboardPoll poll = Books.taught("label a;label b;label c;jar j seats 1 by most holds 20,5,7;"
                    + "jar k seats 1 by most holds 20,5,7;lid l on j for b when 1=1(win " + values[n] + " from a);");
            Check.same("pass(1) of win " + values[n], poll.pass(1), 1);
            holds("win " + values[n], poll, 0, 20 - won[n], 5 + won[n], 7);
            holds("win " + values[n] + ", another jar", poll, 1, 20, 5, 7);
            CupboardPoll own = Books.taught("label a;label b;label c;jar j seats 1 by most holds 20,5,7;"
                    + "lid l on j for a when 1=1(win " + values[n] + " from a);");
            Check.same("pass(1) of win from itself", own.pass(1), 1);
            holds("win from itself", own, 0, 20, 5, 7);
        }
        CupboardPoll none = Books.taught("label a;label b;jar j seats 1 by most holds 0,5;"
                + "lid l on j for b when 1=1(win 9 from a);");
        Check.same("pass(1) of win from none", none.pass(1), 1);
        holds("win from none", none, 0, 0, 5);
    }

    private static void digests() {
        for (int book = 0; book < BOOKS.length; book++) {
            CupboardPoll poll = Books.taught(BOOKS[book]);
            Check.same("digest() of book " + book, poll.digest(), digestOf(poll));
            poll.pass(5);
            Check.same("digest() of book " + book + " behind 5 days", poll.digest(), digestOf(poll));
            if (poll.lids() > 0) {
                poll.putLid(0, poll.jars() - 1);
                Check.same("digest() of book " + book + " behind putLid", poll.digest(), digestOf(poll));
            }
        }
    }

    private static long digestOf(CupboardPoll poll) {
        long d = 1949;
        int[] all = {poll.labels(), poll.jars(), poll.lids(), poll.days(), poll.alliances(), poll.leading()};
        for (int x : all) {
            d = d * 31 + x;
        }
        for (int label = 0; label < poll.labels(); label++) {
            d = d * 31 + poll.leaderOf(label);
            d = d * 31 + poll.beansOf(label);
            d = d * 31 + poll.seatsInAll(label);
            d = d * 31 + (poll.hasMajority(label) ? 1 : 0);
            d = d * 31 + poll.bestJarFor(label);
        }
        for (int jar = 0; jar < poll.jars(); jar++) {
            d = d * 31 + poll.turnout(jar);
            d = d * 31 + poll.seatsOf(jar);
            d = d * 31 + poll.firstIn(jar);
            d = d * 31 + poll.marginIn(jar);
            d = d * 31 + poll.emptySeats(jar);
            d = d * 31 + poll.firstShaken(jar);
            for (int label = 0; label < poll.labels(); label++) {
                d = d * 31 + poll.beansIn(jar, label);
                d = d * 31 + poll.seatsWon(jar, label);
                d = d * 31 + poll.beansToWin(jar, label);
            }
        }
        for (int lid = 0; lid < poll.lids(); lid++) {
            d = d * 31 + poll.jarOfLid(lid);
            d = d * 31 + poll.labelOfLid(lid);
            d = d * 31 + poll.ruleOfLid(lid);
        }
        return d;
    }
}
