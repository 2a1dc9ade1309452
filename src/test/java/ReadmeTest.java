/** The program that README.md shows, with the answers that it tells. */
final class ReadmeTest {
    public static void main(String[] args) {
        CupboardPoll poll = new CupboardPoll();
        write(poll, "label red; label blue; label green;"
                + "jar north seats 5 by divide holds 40, 35, 20;"
                + "jar south seats 3 by quota holds 10, 30, 15;"
                + "lid cap on north for blue"
                + "  when first red (win 3 from red)"
                + "  when day > 2 (hop south join green);");
        Check.same("teach()", poll.teach(), 0);
        Check.same("labels()", poll.labels(), 3);
        Check.same("beansIn(1, 2)", poll.beansIn(1, 2), 15);
        Check.same("firstIn(0)", poll.firstIn(0), 0);
        Check.same("marginIn(0)", poll.marginIn(0), 5);
        Check.same("seatsWon(0, 1)", poll.seatsWon(0, 1), 2);
        Check.same("ruleOfLid(0)", poll.ruleOfLid(0), 0);
        Check.same("beansToWin(0, 1)", poll.beansToWin(0, 1), 3);
        Check.same("seatsAfter(1, 1)", poll.seatsAfter(1, 1), 4);
        Check.same("pass(4)", poll.pass(4), 3);
        Check.same("jarOfLid(0)", poll.jarOfLid(0), 1);
        Check.same("leaderOf(1)", poll.leaderOf(1), 2);
        Check.same("hasMajority(1)", poll.hasMajority(1), true);
        Check.same("pour(1, 2, 0, 200)", poll.pour(1, 2, 0, 200), 15);
        Check.fails("turnout(2)", IndexOutOfBoundsException.class, () -> poll.turnout(2));
        write(poll, "jar east seats 0");
        Check.same("teach() of an error", poll.teach(), 1);
        Check.same("errorAt() of it", poll.errorAt(), 20);
        Check.same("jars() behind it", poll.jars(), 2);
        Check.finish();
    }

    /** The last twenty bytes are filled up with blanks, which a book can end with. */
    private static void write(CupboardPoll poll, String text) {
        for (int from = 0; from < text.length(); from += 20) {
            int[] numbers = new int[5];
            for (int n = 0; n < 20; n++) {
                char sign = from + n < text.length() ? text.charAt(from + n) : ' ';
                numbers[n / 4] = numbers[n / 4] << 8 | sign;
            }
            poll.feed(numbers[0], numbers[1], numbers[2], numbers[3], numbers[4]);
        }
    }
}
