/** Promises 1 to 5: the tape, and what is a book. */
final class BookTest extends BookChecks {
    private static final Class<IllegalStateException> STATE = IllegalStateException.class;
    private static final Class<IllegalArgumentException> ARGUMENT = IllegalArgumentException.class;

    public static void main(String[] args) {
        promise1();
        promise2();
        promise3();
        promise4();
        promise4ManyTimes();
        promise5();
        tokens();
        tokenCount();
        grammar();
        keywordsAreNoNames();
        brackets();
        names();
        unknownNames();
        tooMany();
        numbers();
        orderOfErrors();
        Check.finish();
    }

    private static void promise1() {
        CupboardPoll poll = new CupboardPoll();
        Check.same("labels() at first", poll.labels(), 0);
        Check.same("jars() at first", poll.jars(), 0);
        Check.same("lids() at first", poll.lids(), 0);
        Check.same("days() at first", poll.days(), 0);
        Check.same("alliances() at first", poll.alliances(), 0);
        Check.same("pass(2) at first", poll.pass(2), 0);
        Check.same("days() then", poll.days(), 2);
        Books.taught(AJ).pass(3);
        Check.same("labels() of one more object", new CupboardPoll().labels(), 0);
    }

    private static void promise2() {
        CupboardPoll poll = new CupboardPoll();
        // label abcdef ; jar a
        Check.same("feed", poll.feed(0x6c616265, 0x6c206162, 0x63646566, 0x203b6a61, 0x72206120), 20);
        // seats 3 by most hold
        Check.same("feed", poll.feed(0x73656174, 0x73203320, 0x6279206d, 0x6f737420, 0x686f6c64), 40);
        // s 17 ;, the other bytes blank
        Check.same("feed", poll.feed(0x73203137, 0x203b2020, 0x20202020, 0x20202020, 0x20202020), 60);
        Check.same("teach() of that", poll.teach(), 0);
        Check.same("beansIn(0, 0) of that", poll.beansIn(0, 0), 17);
        Check.same("seatsOf(0) of that", poll.seatsOf(0), 3);

        poll = new CupboardPoll();
        for (int n = 1; n <= 80; n++) {
            Check.same("feed " + n, poll.feed(0x20202020, 0x20202020, 0x20202020, 0x20202020, 0x20202020), 20 * n);
        }
        CupboardPoll full = poll;
        Check.fails("feed beyond 1600", STATE, () -> full.feed(0, 0, 0, 0, 0));
        Check.same("trim(1581)", poll.trim(1581), 1581);
        Check.fails("feed of 20 to 1581", STATE, () -> full.feed(0, 0, 0, 0, 0));
        Check.same("trim(1581) again: nothing was added", poll.trim(1581), 1581);
        Check.fails("trim(1582)", ARGUMENT, () -> full.trim(1582));
        Check.same("trim(1580)", poll.trim(1580), 1580);
        Check.same("feed of 20 to 1580", poll.feed(0x20202020, 0x20202020, 0x20202020, 0x20202020, -1), 1600);
        Check.same("teach(), with bytes of 255", poll.teach(), 1);
        Check.same("errorAt()", poll.errorAt(), 1596);
        Check.same("feed, on the empty tape", poll.feed(0x80000000, 0, 0, 0, 0), 20);
        Check.same("teach(), with a byte of 128", poll.teach(), 1);
        Check.same("errorAt()", poll.errorAt(), 0);
    }

    private static void promise3() {
        CupboardPoll poll = new CupboardPoll();
        Check.same("trim(0) of an empty tape", poll.trim(0), 0);
        Check.fails("trim(1) of an empty tape", ARGUMENT, () -> poll.trim(1));
        Check.fails("trim(-1)", ARGUMENT, () -> poll.trim(-1));
        Books.write(poll, "label a;label b;xxxx");
        Check.fails("trim(21)", ARGUMENT, () -> poll.trim(21));
        Check.fails("trim(smallest)", ARGUMENT, () -> poll.trim(Integer.MIN_VALUE));
        Check.same("trim(20)", poll.trim(20), 20);
        Check.same("trim(8)", poll.trim(8), 8);
        Check.fails("trim(9)", ARGUMENT, () -> poll.trim(9));
        Books.write(poll, "label c;");
        Check.same("teach()", poll.teach(), 0);
        Check.same("labels() of the first and the last part", poll.labels(), 2);
    }

    private static void promise4() {
        CupboardPoll poll = Books.taught(LID + "when 1=1(win 2 from a join a);"
                + "label b;jar k seats 4 by quota holds 1,2;");
        poll.pass(3);
        poll.join(1, 0);
        poll.pour(0, 0, 1, 4);
        poll.putLid(0, 1);
        Books.write(poll, "label a;label a;");
        Check.same("teach() with an error", poll.teach(), 2);
        Check.same("days() stays", poll.days(), 3);
        Check.same("leaderOf(1) stays", poll.leaderOf(1), 0);
        Check.same("beansIn(0, 0) stays", poll.beansIn(0, 0), 5);
        Check.same("jarOfLid(0) stays", poll.jarOfLid(0), 1);
        Check.same("ruleOfLid(0) stays", poll.ruleOfLid(0), 0);
        Check.same("pass(1) stays", poll.pass(1), 2);
        Check.same("the tape is empty behind an error", poll.feed(0x20202020, 0x20202020, 0x20202020, 0x20202020,
                0x20202020), 20);
        Books.write(poll, "label c;jar n seats 2 by most holds 8;");
        Check.same("teach() behind that", poll.teach(), 0);
        Check.same("the tape is empty behind a book", poll.trim(0), 0);
        Check.fails("trim(1) behind a book", ARGUMENT, () -> poll.trim(1));
        Check.same("labels() anew", poll.labels(), 1);
        Check.same("jars() anew", poll.jars(), 1);
        Check.same("lids() anew", poll.lids(), 0);
        Check.same("days() anew", poll.days(), 0);
        Check.same("beansIn(0, 0) anew", poll.beansIn(0, 0), 8);
        Check.same("seatsInAll(0) anew, without those of other jars", poll.seatsInAll(0), 2);
        Check.same("teach() of an empty tape", poll.teach(), 0);
        Check.same("labels() of the empty book", poll.labels(), 0);
        Check.same("jars() of the empty book", poll.jars(), 0);

        CupboardPoll twice = Books.taught(AJ + "label b;");
        twice.join(1, 0);
        Books.write(twice, AJ + "label b;");
        twice.teach();
        Check.same("a label follows none at first, also anew", twice.leaderOf(1), 1);
        Check.same("labels without a number behind holds have no beans", twice.beansIn(0, 1), 0);
    }

    /** No book may count what another one told, and one with an error even less. */
    private static void promise4ManyTimes() {
        String full = LID + many("when 1=1(shake leave)", 24) + ";";
        String late = "label a;label b;" + full;
        CupboardPoll poll = new CupboardPoll();
        for (int n = 0; n < 6; n++) {
            Books.write(poll, full);
            Check.same("teach() of a full book, time " + n, poll.teach(), 0);
            Check.same("ruleOfLid(0) of it", poll.ruleOfLid(0), 0);
            Check.same("pass(1) with it", poll.pass(1), 2);
            Books.write(poll, full + "label a;");
            Check.same("teach() of a full book with an error, time " + n, poll.teach(), 2);
            Check.same("errorAt() of it", poll.errorAt(), full.length() + 6);
            Check.same("pass(1) with the one before", poll.pass(1), 2);
            Check.same("days() then", poll.days(), 2);
        }
        Books.write(poll, late);
        Check.same("teach() of a book that is wrong early", poll.teach(), 2);
        Check.same("errorAt() of it", poll.errorAt(), 22);
        Books.write(poll, "");
        Check.same("teach() of an empty tape", poll.teach(), 0);
        Check.same("errorAt() of it", poll.errorAt(), -1);
        Check.same("pass(1) with it", poll.pass(1), 0);
    }

    private static void promise5() {
        CupboardPoll poll = new CupboardPoll();
        Check.same("errorAt() at first", poll.errorAt(), -1);
        Books.write(poll, "label a;;");
        Check.same("errorAt() ahead of teach()", poll.errorAt(), -1);
        Check.same("teach()", poll.teach(), 1);
        Check.same("errorAt() behind an error", poll.errorAt(), 8);
        Books.write(poll, "label a");
        Check.same("errorAt() stays until teach()", poll.errorAt(), 8);
        poll.teach();
        Check.same("errorAt() of the latest teach()", poll.errorAt(), 7);
        Books.write(poll, A);
        poll.teach();
        Check.same("errorAt() behind a book", poll.errorAt(), -1);
    }

    private static void tokens() {
        isBook("");
        isBook("  \n \n");
        isBook("\nlabel\na\n;\n");
        isBook("label abcdefgh;");
        isBook("label labels;label o;label onn;");
        isBook("label a;jar j seats 3by most holds 7;");
        isBook("label a;jar j seats 3by divide holds 0007;");
        isBook(LID + "when 1<2and not first a or[2>1](win 1from a shake);");
        reads("label abcdefghi;", 1, 6);
        reads("labela;", 1, 0);
        reads("labelaaaa a;", 1, 0);
        reads("label a;jar j seats 00001 by most holds 1;", 1, 20);
        reads("label a;jar j seats 1 by most holds 12345;", 1, 36);
        reads("label a;jar j seats 1bymost holds 1;", 1, 21);
        reads("label a1;", 1, 7);
        reads("label A;", 1, 6);
        reads("label a;\tlabel b;", 1, 8);
        reads("label a;\r\n", 1, 8);
        reads("label\0a;", 1, 5);
        reads("label a;?", 1, 8);
        reads("label \u00e4;", 1, 6);
        reads("label a;{", 1, 8);
        reads("label `;", 1, 6);
        reads("label a;jar j seats / by most holds 1;", 1, 20);
        reads("label a;jar j seats : by most holds 1;", 1, 20);
        reads("label  a ", 1, 9);
        reads("label a;l", 1, 8);
        reads("   label", 1, 8);
        reads("label \n \n", 1, 9);
    }

    private static void tokenCount() {
        // 12 tokens of label and jar, 6 of the lid, 2 * 187 + 1 of the test's left side, 6 more
        String of399 = LID + "when 1" + many("+1", 187) + "=1();";
        String of400 = LID + "when not 1" + many("+1", 187) + "=1();";
        isBook(of399);
        isBook(of399 + "  ");
        isBook(of400);
        isBook(of400 + " \n ");
        reads(of399 + " label", 1, of399.length() + 6);
        reads(of399 + " label bb ;", 1, of399.length() + 7);
        reads(of399 + " label ?", 1, of399.length() + 7);
        reads(of399 + " ?", 1, of399.length() + 1);
        reads(of400 + ";", 1, of400.length());
        reads(of400 + " label b;", 1, of400.length() + 1);
        reads(of400 + " toolongword", 1, of400.length() + 1);
        reads(of400 + "?", 1, of400.length());
    }

    private static void grammar() {
        isBook(AJ);
        isBook(LID + ";");
        isBook(LID + "when 1=1();");
        isBook(LID + "when 1=1()when not not first a(shake)when allied a(leave join a hop j win 1 from a);");
        isBook(LID + "when day+1*2-beans a*(seats a-margin)<turnout(win (1)from a);");
        isBook(LID + "when [1=1]and[[2=2]or first a](shake);");
        isBook(LID + "when (1)=((2))(shake);");
        isBook("label a;jar j seats 9 by divide holds 200;jar k seats 1 by quota holds 0;");
        reads(";", 1, 0);
        reads("a;", 1, 0);
        reads("label;", 1, 5);
        reads("label 1;", 1, 6);
        reads("label a b;", 1, 8);
        reads("label a", 1, 7);
        reads("label a label b;", 1, 8);
        reads("jar ;", 1, 4);
        reads("label a;jar j by most holds 1;", 1, 14);
        reads("label a;jar j seats a by most holds 1;", 1, 20);
        reads("label a;jar j seats 1 most holds 1;", 1, 22);
        reads("label a;jar j seats 1 by first holds 1;", 1, 25);
        reads("label a;jar j seats 1 by some holds 1;", 1, 25);
        reads("label a;jar j seats 1 by most holds;", 1, 35);
        reads("label a;jar j seats 1 by most;", 1, 29);
        reads("label a;jar j seats 1 by most holds 1,;", 1, 38);
        reads("label a;jar j seats 1 by most holds ,1;", 1, 36);
        reads("label a;jar j seats 1 by most holds 1 2;", 1, 38);
        reads("label a;jar j seats 1 by most holds -1;", 1, 36);
        reads(AJ + "lid l for a on j;", 1, 44);
        reads(AJ + "lid l on j;", 1, 48);
        reads(AJ + "lid l on j for;", 1, 52);
        reads(AJ + "lid on j for a;", 1, 42);
        int at = LID.length();
        reads(LID + "shake;", 1, at);
        reads(LID + "when (shake);", 1, at + 6);
        reads(LID + "when 1(shake);", 1, at + 6);
        reads(LID + "when 1=(shake);", 1, at + 8);
        reads(LID + "when 1=1=1(shake);", 1, at + 8);
        reads(LID + "when 1=1 shake;", 1, at + 9);
        reads(LID + "when 1=1(shake;", 1, at + 14);
        reads(LID + "when 1=1(shake));", 1, at + 15);
        reads(LID + "when 1=1(a);", 1, at + 9);
        reads(LID + "when 1=1(win from a);", 1, at + 13);
        reads(LID + "when 1=1(win 1);", 1, at + 14);
        reads(LID + "when 1=1(win 1=1 from a);", 1, at + 14);
        reads(LID + "when 1=1(win [1] from a);", 1, at + 13);
        reads(LID + "when 1=1(hop);", 1, at + 12);
        reads(LID + "when 1=1(join shake);", 1, at + 14);
        reads(LID + "when 1=1(leave a);", 1, at + 15);
        reads(LID + "when 1=1(shake,leave);", 1, at + 14);
        reads(LID + "when 1=1(when 1=1());", 1, at + 9);
        reads(LID + "when first(shake);", 1, at + 10);
        reads(LID + "when allied 1(shake);", 1, at + 12);
        reads(LID + "when a=1(shake);", 1, at + 5);
        reads(LID + "when beans=1(shake);", 1, at + 10);
        reads(LID + "when day a=1(shake);", 1, at + 9);
        reads(LID + "when -1=1(shake);", 1, at + 5);
        reads(LID + "when 1+=1(shake);", 1, at + 7);
        reads(LID + "when 1**1=1(shake);", 1, at + 7);
        reads(LID + "when [1=1(shake);", 1, at + 9);
        reads(LID + "when [1](shake);", 1, at + 7);
        reads(LID + "when (1=1)(shake);", 1, at + 7);
        reads(LID + "when (1](shake);", 1, at + 7);
        reads(LID + "when [1=1)(shake);", 1, at + 9);
        reads(LID + "when ()=1(shake);", 1, at + 6);
        reads(LID + "when 1=1 and(shake);", 1, at + 13);
        reads(LID + "when 1=1 or or 1=1(shake);", 1, at + 12);
        reads(LID + "when 1=1 and not(shake);", 1, at + 17);
        reads(LID + "when or 1=1(shake);", 1, at + 5);
        reads(LID + "when not [not](shake);", 1, at + 13);
        reads(LID + "when [[1]=1](shake);", 1, at + 8);
        reads(LID + "when 1=1()label b;", 1, at + 10);
    }

    private static void keywordsAreNoNames() {
        String words = "label jar seats by holds lid on for when win from hop shake join leave not and or first allied "
                + "day beans margin turnout most divide quota";
        for (String word : words.split(" ")) {
            reads("label " + word + ";", 1, 6);
            reads("jar " + word + " seats 1 by most holds 1;", 1, 4);
            isBook("label x" + word.substring(1) + ";");
        }
        for (String word : new String[] {"way", "name", "line", "rule", "act", "test", "value", "less", "end", "bad"}) {
            isBook("label " + word + ";");
        }
    }

    private static void brackets() {
        int at = LID.length();
        isBook(LID + "when [[[[[[1=1]]]]]](shake);");
        isBook(LID + "when ((((((1))))))=((((((1))))))(win ((((((1)))))) from a);");
        isBook(LID + "when [[[(((1)))=1 and ((1))=1]]] or [[[[[(1)=1]]]]](win ((((((1)))))) from a);");
        reads(LID + "when [[[[[[[1=1]]]]]]](shake);", 1, at + 11);
        reads(LID + "when (((((((1)))))))=1(shake);", 1, at + 11);
        reads(LID + "when [[[((((1))))=1]]](shake);", 1, at + 11);
        reads(LID + "when [[[[[[1=(1)]]]]]](shake);", 1, at + 13);
        reads(LID + "when [[[[[[not [1=1]]]]]]](shake);", 1, at + 15);
        reads(LID + "when 1=1(win (((((((1))))))) from a);", 1, at + 19);
        reads(LID + "when [[[[[[1=1]]]]]] and [[[[[[[1=1]]]]]]](shake);", 1, at + 31);
    }

    private static void names() {
        reads("label a;label a;", 2, 14);
        reads(AJ + "jar j seats 1 by most holds 1;", 2, 42);
        reads("label a;jar a seats 1 by most holds 1;", 2, 12);
        reads(AJ + "label j;", 2, 44);
        reads(AJ + "lid a on j for a;", 2, 42);
        reads(AJ + "lid j on j for a;", 2, 42);
        reads(LID + ";lid l on j for a;", 2, LID.length() + 5);
        reads(LID + ";label l;", 2, LID.length() + 7);
        reads(LID + ";jar l seats 1 by most holds 1;", 2, LID.length() + 5);
        isBook("label a;label aa;label ab;label ba;label b;label aaaaaaaa;");
        isBook("label aaaaaaab;label aaaaaaaa;label baaaaaaa;");
    }

    private static void unknownNames() {
        int at = LID.length();
        reads(AJ + "lid l on k for a;", 3, 47);
        reads(AJ + "lid l on a for a;", 3, 47);
        reads(AJ + "lid l on l for a;", 3, 47);
        reads(AJ + "lid l on j for b;", 3, 53);
        reads(AJ + "lid l on j for j;", 3, 53);
        reads(AJ + "lid l on j for l;", 3, 53);
        reads(AJ + "lid l on j for b;label b;", 3, 53);
        reads("label a;lid l on j for a;jar j seats 1 by most holds 1;", 3, 17);
        reads(LID + "when 1=1(hop a);", 3, at + 13);
        reads(LID + "when 1=1(hop k);jar k seats 1 by most holds 1;", 3, at + 13);
        reads(LID + "when 1=1(win 1 from j);", 3, at + 20);
        reads(LID + "when 1=1(join l);", 3, at + 14);
        reads(LID + "when first b(shake);", 3, at + 11);
        reads(LID + "when allied b(shake);", 3, at + 12);
        reads(LID + "when beans j=1(shake);", 3, at + 11);
        reads(LID + "when seats b=1(shake);", 3, at + 11);
        reads(LID + "when 1=1(win seats b from a);", 3, at + 19);
        isBook(AJ + "jar k seats 1 by most holds 1;label b;lid l on k for b when first b(hop j join b);");
    }

    private static void tooMany() {
        String six = "label a;label b;label c;label d;label e;label f;";
        isBook(six);
        reads(six + "label g;", 4, six.length() + 6);
        reads(six + "label a;", 2, six.length() + 6);
        reads(six + "label h;label a;", 4, six.length() + 6);
        StringBuilder jars = new StringBuilder(A);
        for (char c = 'b'; c <= 'i'; c++) {
            jars.append("jar ").append(c).append(" seats 1 by most holds 1;");
        }
        isBook(jars.toString());
        reads(jars + "jar z seats 0 by most holds 201;", 4, jars.length() + 4);
        StringBuilder lids = new StringBuilder(AJ);
        for (char c = 'k'; c <= 'p'; c++) {
            lids.append("lid ").append(c).append(" on j for a;");
        }
        isBook(lids.toString());
        reads(lids + "lid z on z for z;", 4, lids.length() + 4);
        String rules = LID + many("when 1=1()", 20) + ";lid m on j for a " + many("when 1=1()", 4);
        isBook(rules + ";");
        reads(rules + "when first z();", 4, rules.length());
        String acts = LID + "when 1=1(" + many("shake ", 30) + ")when 1=1(" + many("leave ", 29);
        isBook(acts + "shake);");
        reads(acts + "shake hop z);", 4, acts.length() + 6);
        reads(acts + "shake join z);", 4, acts.length() + 6);
        reads(acts + "shake win seats z from z);", 4, acts.length() + 6);
        reads(acts + "hop z shake);", 3, acts.length() + 4);
        isBook(acts + "win 1 from a)when 1=1();");
    }

    private static void numbers() {
        isBook("label a;jar j seats 9 by most holds 200;");
        isBook("label a;jar j seats 0009 by most holds 0200;");
        reads("label a;jar j seats 0 by most holds 1;", 5, 20);
        reads("label a;jar j seats 10 by most holds 1;", 5, 20);
        reads("label a;jar j seats 9999 by most holds 1;", 5, 20);
        reads("label a;jar j seats 1 by most holds 201;", 5, 36);
        reads("label a;label b;jar j seats 1 by most holds 1,201;", 5, 46);
        reads("label a;label b;jar j seats 1 by most holds 1,2,3;", 5, 48);
        isBook("label a;label b;jar j seats 1 by most holds 1;");
        reads("jar j seats 1 by most holds 0;", 5, 28);
        reads("label a;jar j seats 1 by most holds 1,2;label b;", 5, 38);
        isBook(LID + "when 9999=0(win 9999 from a);");
    }

    private static void orderOfErrors() {
        reads("label a;label a;label", 1, 21);
        reads("label a;label a;jar j seats 0 by most holds 999;", 2, 14);
        reads("jar j seats 0 by most holds 999;label a;label a;", 5, 12);
        reads("label a;jar j seats 1 by most holds 9;lid l on x for y when first z(hop z);lid l on j for a;", 3, 47);
        reads("label a;jar j seats 0 by most holds 999 1;", 1, 40);
        reads(AJ + "lid j on x for a ?", 1, 55);
    }
}
