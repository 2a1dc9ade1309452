/** Promises 25 to 27 and 33, and part 3 of the document: lids, their tests, their acts, and days. */
final class LidsTest {
    private static final Class<IndexOutOfBoundsException> INDEX = IndexOutOfBoundsException.class;
    private static final Class<IllegalArgumentException> ARGUMENT = IllegalArgumentException.class;
    private static final int[] NO_NUMBERS = {-1, Integer.MIN_VALUE, Integer.MAX_VALUE};
    private static final String BOOK = "label a;label b;label c;jar j seats 3 by most holds 40,35,20;"
            + "jar k seats 4 by divide holds 10,30,0;jar m seats 2 by quota holds 0,0,0;";

    public static void main(String[] args) {
        promise25();
        promise26();
        promise27();
        valuesOfTests();
        signsOfTests();
        wrappingValues();
        firstAndAllied();
        win();
        hopAndShake();
        joinAndLeave();
        turnsInOrder();
        allRulesAndActs();
        promise33();
        Check.finish();
    }

    private static CupboardPoll with(String lids) {
        return Books.taught(BOOK + lids);
    }

    /** Whether the test holds for a lid on jar j for label b, at first. */
    private static void holds(String test, boolean due) {
        Check.same(test, with("lid l on j for b when " + test + "();").ruleOfLid(0), due ? 0 : -1);
    }

    private static void promise25() {
        CupboardPoll poll = with("lid l on k for a;lid o on j for b when 1=1(hop m);");
        Check.same("jarOfLid(0)", poll.jarOfLid(0), 1);
        Check.same("jarOfLid(1)", poll.jarOfLid(1), 0);
        poll.pass(1);
        Check.same("jarOfLid(1) behind hop", poll.jarOfLid(1), 2);
        for (int no : NO_NUMBERS) {
            Check.fails("jarOfLid, no lid", INDEX, () -> poll.jarOfLid(no));
        }
        Check.fails("jarOfLid(2)", INDEX, () -> poll.jarOfLid(2));
        Check.fails("jarOfLid(0) without lids", INDEX, () -> with("").jarOfLid(0));
    }

    private static void promise26() {
        CupboardPoll poll = with("lid l on k for c;lid o on j for b when 1=1(join a);");
        poll.pass(1);
        Check.same("labelOfLid(0)", poll.labelOfLid(0), 2);
        Check.same("labelOfLid(1), not the leader", poll.labelOfLid(1), 1);
        for (int no : NO_NUMBERS) {
            Check.fails("labelOfLid, no lid", INDEX, () -> poll.labelOfLid(no));
        }
        Check.fails("labelOfLid(2)", INDEX, () -> poll.labelOfLid(2));
    }

    private static void promise27() {
        CupboardPoll poll = with("lid l on j for a when day=1()when day>1(shake)when day<0(hop j);"
                + "lid o on k for a;lid p on k for b when 1=2()when 1=1()when 1=1(shake);");
        Check.same("ruleOfLid(0), none", poll.ruleOfLid(0), -1);
        Check.same("ruleOfLid(1), without rules", poll.ruleOfLid(1), -1);
        Check.same("ruleOfLid(2), the first that holds, by the lid's numbers", poll.ruleOfLid(2), 1);
        Check.same("pass(1)", poll.pass(1), 0);
        Check.same("ruleOfLid(0) on day 1", poll.ruleOfLid(0), 0);
        poll.pass(1);
        Check.same("ruleOfLid(0) on day 2", poll.ruleOfLid(0), 1);
        Check.same("ruleOfLid changes nothing", poll.beansIn(0, 0), 40);
        for (int no : NO_NUMBERS) {
            Check.fails("ruleOfLid, no lid", INDEX, () -> poll.ruleOfLid(no));
        }
        Check.fails("ruleOfLid(3)", INDEX, () -> poll.ruleOfLid(3));
    }

    private static void valuesOfTests() {
        holds("day=0", true);
        holds("beans a=40 and beans b=35 and beans c=20", true);
        holds("margin=5", true);
        holds("turnout=95", true);
        // jar j: 3 seats for a; jar k: 30 15 10 and 10 for b and a, the smaller number ahead: a 1, b 3
        holds("seats a=4 and seats b=3 and seats c=0", true);
        CupboardPoll poll = with("lid l on j for b when beans a=10 and turnout=40 and margin=20();"
                + "lid o on j for b when seats a=7 and seats b=7();lid p on m for c when margin=0 and turnout=0();"
                + "lid q on j for b when beans a=40 and margin=55();");
        Check.same("ruleOfLid on j", poll.ruleOfLid(0), -1);
        poll.putLid(0, 1);
        Check.same("ruleOfLid on k: values of that jar", poll.ruleOfLid(0), 0);
        Check.same("ruleOfLid on m, without beans", poll.ruleOfLid(2), 0);
        poll.join(0, 1);
        Check.same("seats are those of the alliance", poll.ruleOfLid(1), 0);
        Check.same("beans are those of the label, the margin that of alliances", poll.ruleOfLid(3), 0);
    }

    private static void signsOfTests() {
        holds("1<2", true);
        holds("2<2", false);
        holds("3>2", true);
        holds("2>2", false);
        holds("2=2", true);
        holds("2=3", false);
        holds("2+3*4=14", true);
        holds("(2+3)*4=20", true);
        holds("9-3-2=4", true);
        holds("9-(3-2)=8", true);
        holds("2-5<0", true);
        holds("2*3*4=24", true);
        holds("2-3+4=3", true);
        holds("not 1=1", false);
        holds("not not 1=1", true);
        holds("not not not 1=1", false);
        holds("1=1 or 1=1 and 1=2", true);
        holds("[1=1 or 1=1]and 1=2", false);
        holds("1=2 and 1=1 or 1=1", true);
        holds("1=2 and[1=1 or 1=1]", false);
        holds("not 1=2 and 1=2", false);
        holds("not[1=2 and 1=2]", true);
        holds("not 1=1 or 1=1", true);
        holds("not[1=1 or 1=2]", false);
        holds("1=2 or 1=2 or 1=1", true);
        holds("1=1 and 1=1 and 1=2", false);
        holds("1=2 or 1=2", false);
        holds("1=1 and 1=1", true);
        // what holds does so in one way, whichever sign or word tells it
        String[] kinds = {"1<2", "2>1", "1=1", "not 1=2", "first a", "allied b", "[1<2 or 1=2]", "[1=1 and 2>1]"};
        String[] others = {"2<1", "1>2", "1=2", "not 1=1", "first b", "allied a", "[1=2 or 2<1]", "[1=1 and 1>2]"};
        for (int one = 0; one < kinds.length; one++) {
            for (int other = 0; other < kinds.length; other++) {
                holds(kinds[one] + " and " + kinds[other], true);
                holds(others[one] + " and " + kinds[other], false);
                holds(kinds[one] + " and " + others[other], false);
                holds(kinds[one] + " or " + others[other], true);
                holds(others[one] + " or " + kinds[other], true);
                holds(others[one] + " or " + others[other], false);
            }
        }
    }

    private static void wrappingValues() {
        // 9999 * 9999 * 9999 is 999700029999, and 999700029999 - 233 * 2^32 is -1027401169
        holds("9999*9999*9999<0", true);
        holds("9999*9999*9999+9999*9999*10<0", true);
        holds("9999*9999*9999*0=0", true);
        // 2^31 wraps to the smallest number
        holds("8192*8192*32<0", true);
        holds("8192*8192*32-1>0", true);
        holds("8192*8192*64=0", true);
        CupboardPoll poll = with("lid l on j for b when 1=1(win 8192*8192*32 from a win 8192*8192*32-1 from c);");
        Check.same("pass", poll.pass(1), 2);
        Check.same("a value below 0 wins none", poll.beansIn(0, 0), 40);
        Check.same("the largest value wins all", poll.beansIn(0, 2), 0);
    }

    private static void firstAndAllied() {
        holds("first a", true);
        holds("first b", false);
        holds("allied b", true);
        holds("allied a", false);
        CupboardPoll poll = with("lid l on j for b when first b();lid o on m for a when first a or first b or first c();"
                + "lid p on k for a when allied c();lid q on k for c when allied a and first c();");
        Check.same("first of one that is not", poll.ruleOfLid(0), -1);
        Check.same("first without beans", poll.ruleOfLid(1), -1);
        poll.join(1, 0);
        Check.same("first of one that follows the first", poll.ruleOfLid(0), 0);
        Check.same("allied of two that are not", poll.ruleOfLid(2), -1);
        poll.join(2, 1);
        Check.same("allied over others", poll.ruleOfLid(2), 0);
        Check.same("allied the other way round", poll.ruleOfLid(3), 0);
    }

    private static void win() {
        CupboardPoll poll = with("lid l on j for b when day=0(win 7 from a)when day=1(win 0-7 from a win 0 from c)"
                + "when day=2(win 99 from c)when day=3(win 9 from b)when day=4(win beans a from a win beans a+3 from a);");
        Check.same("pass: win", poll.pass(1), 1);
        Check.same("win 7: from a", poll.beansIn(0, 0), 33);
        Check.same("win 7: to b", poll.beansIn(0, 1), 42);
        Check.same("another jar", poll.beansIn(1, 0), 10);
        Check.same("pass: win of none", poll.pass(1), 2);
        Check.same("win of less than 0", poll.beansIn(0, 0), 33);
        Check.same("win of 0", poll.beansIn(0, 2), 20);
        Check.same("pass: win of more", poll.pass(1), 1);
        Check.same("win of all there are", poll.beansIn(0, 2), 0);
        Check.same("win of all there are: to b", poll.beansIn(0, 1), 62);
        Check.same("pass: win from itself", poll.pass(1), 1);
        Check.same("win from itself", poll.beansIn(0, 1), 62);
        Check.same("pass: win of values", poll.pass(1), 2);
        Check.same("win of values", poll.beansIn(0, 1), 95);
        CupboardPoll follower = with("lid l on j for b when 1=1(join a win 5 from a);");
        follower.pass(1);
        Check.same("won beans go to the label, not to its leader", follower.beansIn(0, 1), 40);
    }

    private static void hopAndShake() {
        CupboardPoll poll = with("lid l on j for b when 1=1(win 1 from a hop k win 2 from a hop k shake hop m shake);");
        Check.same("pass(1)", poll.pass(1), 7);
        Check.same("jarOfLid(0)", poll.jarOfLid(0), 2);
        Check.same("win ahead of hop", poll.beansIn(0, 1), 36);
        // 8 and 32 and 0, then 0 and 3 and 0 go on
        Check.same("win and shake behind hop: a", poll.beansIn(1, 0), 8);
        Check.same("win and shake behind hop: b", poll.beansIn(1, 1), 29);
        Check.same("win and shake behind hop: c", poll.beansIn(1, 2), 3);
        Check.same("the first jar is not shaken", poll.beansIn(0, 0), 39);
        Check.same("shake of an empty jar", poll.turnout(2), 0);
        Check.same("values are those behind hop and win", with("lid l on j for b when 1=1(hop k win turnout from a);")
                .pass(1), 2);
        CupboardPoll values = with("lid l on j for a when 1=1(win 1 from b hop k win beans b-25 from b win margin from b);");
        values.pass(1);
        // on k: 10 and 30, 15 and 25, 15 + 10 and 15
        Check.same("values are looked at as the act comes", values.beansIn(1, 0), 25);
        CupboardPoll shaken = with("lid l on j for c when 1=1(shake);");
        shaken.pass(1);
        // 4, 3 and 2 go on
        Check.same("shake: a", shaken.beansIn(0, 0), 38);
        Check.same("shake: b", shaken.beansIn(0, 1), 36);
        Check.same("shake: c", shaken.beansIn(0, 2), 21);
    }

    private static void joinAndLeave() {
        CupboardPoll poll = with("lid l on j for b when day=0(join c)when day=1(join b join c)when day=2(join a)"
                + "when day=3(leave leave);lid o on j for a when day=2(join b)when day=4(join b);"
                + "lid p on j for c when day=4(join a);");
        Check.same("pass: join", poll.pass(1), 1);
        Check.same("join", poll.leaderOf(1), 2);
        Check.same("pass: join of itself and of the same", poll.pass(1), 2);
        Check.same("join of itself", poll.leaderOf(1), 2);
        Check.same("pass: join of another, and of one that follows", poll.pass(1), 2);
        Check.same("join in the place of another", poll.leaderOf(1), 0);
        Check.same("join of one that follows: nothing happens", poll.leaderOf(0), 0);
        Check.same("pass: leave, twice", poll.pass(1), 2);
        Check.same("leave", poll.leaderOf(1), 1);
        Check.same("pass: two labels", poll.pass(1), 2);
        Check.same("join over others", poll.leaderOf(2), 1);
        Check.same("the label's alliance", poll.areAllied(0, 1), true);
    }

    private static void turnsInOrder() {
        CupboardPoll poll = with("lid l on j for a when beans b=35(win 30 from b)when 1=1(leave);"
                + "lid o on j for b when beans b=5(win 1 from a)when beans b=35(win 2 from a win 2 from c);");
        Check.same("ruleOfLid(1) ahead of the day", poll.ruleOfLid(1), 1);
        Check.same("pass(1)", poll.pass(1), 2);
        Check.same("the second lid sees what the first one did", poll.beansIn(0, 1), 6);
        Check.same("others of its rules are not done", poll.beansIn(0, 2), 20);
        Check.same("the day changes behind all lids",
                with("lid l on j for a when day=0(win 1 from b);lid o on j for a when day=0(win 1 from b);").pass(1), 2);
        CupboardPoll seats = with("lid l on j for b when 1=1(win 3 from a);lid o on k for a when seats b>5(shake);");
        Check.same("seats ahead", seats.ruleOfLid(1), -1);
        // jar j is b's then: 38 to 37
        Check.same("seats are counted as the turn comes", seats.pass(1), 2);
    }

    private static void allRulesAndActs() {
        StringBuilder rules = new StringBuilder("lid l on j for b ");
        for (int day = 0; day < 23; day++) {
            rules.append("when day=").append(day).append("(win 1 from a)");
        }
        CupboardPoll poll = with(rules + ";lid o on k for a when day=23(hop m);");
        Check.same("ruleOfLid(0), the first of 24", poll.ruleOfLid(0), 0);
        poll.pass(22);
        Check.same("ruleOfLid(0), the 23rd of 24", poll.ruleOfLid(0), 22);
        Check.same("ruleOfLid(1) ahead of its day", poll.ruleOfLid(1), -1);
        poll.pass(1);
        Check.same("beansIn behind 23 rules", poll.beansIn(0, 0), 17);
        Check.same("ruleOfLid(1), the 24th of 24", poll.ruleOfLid(1), 0);
        Check.same("pass of the 24th rule", poll.pass(1), 1);
        Check.same("jarOfLid(1) behind the 24th rule", poll.jarOfLid(1), 2);
        StringBuilder acts = new StringBuilder("lid l on j for b when 1=1(");
        for (int act = 0; act < 59; act++) {
            acts.append("win 1 from c ");
        }
        CupboardPoll busy = with(acts + "hop k);");
        Check.same("pass with 60 acts", busy.pass(1), 60);
        Check.same("beansIn behind 60 acts", busy.beansIn(0, 1), 55);
        Check.same("jarOfLid(0) behind the 60th act", busy.jarOfLid(0), 1);
    }

    private static void promise33() {
        CupboardPoll poll = with("lid l on j for b when day<3(win 0 from a win 99 from b shake)when day<62(hop j);"
                + "lid o on j for a when 1=2(shake);");
        Check.same("pass(1)", poll.pass(1), 3);
        Check.same("days()", poll.days(), 1);
        Check.same("pass(3), also what changes nothing", poll.pass(3), 7);
        Check.same("days()", poll.days(), 4);
        Check.same("pass(60)", poll.pass(60), 58);
        Check.same("days()", poll.days(), 64);
        Check.same("pass(60), none", poll.pass(60), 0);
        Check.fails("pass(0)", ARGUMENT, () -> poll.pass(0));
        Check.fails("pass(-1)", ARGUMENT, () -> poll.pass(-1));
        Check.fails("pass(61)", ARGUMENT, () -> poll.pass(61));
        Check.fails("pass(smallest)", ARGUMENT, () -> poll.pass(Integer.MIN_VALUE));
        Check.same("nothing was changed", poll.days(), 124);
    }
}
