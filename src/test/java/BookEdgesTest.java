/** Part 1 of the document, sentence by sentence: the last case that is a book, and the first that is not. */
final class BookEdgesTest extends BookChecks {
    private static final String SIX = "label a;label b;label c;label d;label e;label f;";
    private static final String JAR = " seats 1 by most holds 1;";
    /** Two jars and two labels, for books that go on with a lid. */
    private static final String BASE = "label a;label b;jar j" + JAR + "jar k" + JAR;

    public static void main(String[] args) {
        fullTape();
        byteBetweenTokens();
        byteInName();
        byteInNumber();
        byteInValue();
        tokensThatTouch();
        wordsOfEightLetters();
        numbersOfFourDigits();
        repeatedParts();
        sixBrackets();
        fourHundredTokens();
        namesThatAreTaken();
        namesThatAreUnknown();
        seventhLabelNinthJarSeventhLid();
        twentyFifthRule();
        sixtyFirstAct();
        fullBook();
        seatsOfJars();
        beansOfJars();
        oneNumberForEachLabel();
        firstErrorInLine();
        firstErrorOfTwoLines();
        errorOneAheadOfOthers();
        Check.finish();
    }

    private static String to(int length, String text) {
        return text + many(" ", length - text.length());
    }

    private static void fullTape() {
        isBook(to(1600, A));
        isBook(to(1600, many("\n", 800) + A));
        isBook(to(1599, "label a") + ";");
        isBook(to(1592, "label a;") + "label b;");
        reads(to(1600, "label a"), 1, 1600);
        reads(to(1599, "label a"), 1, 1599);
        reads(to(1599, A) + "?", 1, 1599);
        reads(to(1599, A) + "l", 1, 1599);
        reads(to(1595, A) + "label", 1, 1600);
        reads(to(1592, A) + "label a;", 2, 1598);
        reads(to(1592, A) + "label 9;", 1, 1598);
        reads(many("a", 1600), 1, 0);
        reads("label " + many("a", 1594), 1, 6);
        reads(AJ + "jar k seats " + many("1", 1500), 1, AJ.length() + 12);
        reads("label a", 1, 7);
        reads("l", 1, 0);
        reads(many(" ", 20) + "?", 1, 20);
    }

    /** Only blanks and line ends can stand between two lines. */
    private static void byteBetweenTokens() {
        for (char c = 0; c < 256; c++) {
            boolean isBlank = c == 32 || c == 10;
            reads(A + c + "label b;", isBlank ? 0 : 1, isBlank ? -1 : A.length());
            reads(A + "label b;" + c, isBlank ? 0 : 1, isBlank ? -1 : 16);
        }
    }

    private static void byteInName() {
        for (char c = 0; c < 256; c++) {
            String text = "label a" + c + ";";
            if (c >= 'a' && c <= 'z' || c == 32 || c == 10) {
                isBook(text);
            } else {
                reads(text, 1, c == ';' ? 8 : 7);
            }
        }
    }

    private static void byteInNumber() {
        String start = "label a;label b;jar j seats 1 by most holds 1";
        int at = start.length();
        for (char c = 0; c < 256; c++) {
            String text = start + c + "2;";
            if (c >= '0' && c <= '9' || c == ',') {
                isBook(text);
            } else {
                reads(text, 1, c == ';' || c == 32 || c == 10 ? at + 1 : at);
            }
        }
    }

    private static void byteInValue() {
        String start = LID + "when 1";
        int at = start.length();
        for (char c = 0; c < 256; c++) {
            String text = start + c + "2=3();";
            if (c >= '0' && c <= '9' || c == '+' || c == '-' || c == '*') {
                isBook(text);
            } else if (c == '<' || c == '>' || c == '=') {
                reads(text, 1, at + 2);
            } else {
                reads(text, 1, c == 32 || c == 10 ? at + 1 : at);
            }
        }
    }

    private static void tokensThatTouch() {
        isBook("label\na;label\n\n b\n;");
        isBook(LID + "when[1=1]and[2>1]or first a(win(1)from a hop j)when 1<2or 3=3();");
        isBook(LID + "when 1=1and not 2=1(win 5from a);");
        reads("label a;labelb;", 1, 8);
        reads(LID + "whenfirst a();", 1, LID.length());
        reads(LID + "when firsta();", 1, LID.length() + 5);
        reads(LID + "when notfirst a();", 1, LID.length() + 5);
        reads(LID + "when 1<=1();", 1, LID.length() + 7);
        reads(LID + "when 1>=1();", 1, LID.length() + 7);
        reads(LID + "when 1<>1();", 1, LID.length() + 7);
        reads(LID + "when 1==1();", 1, LID.length() + 7);
        reads(LID + "when 1 1=1();", 1, LID.length() + 7);
        reads("label a;jar j seats 1 by most holds 1 1;", 1, 38);
        reads("label a b;", 1, 8);
        reads("label a\nb;", 1, 8);
    }

    /** The places of a book where a name stands, each # a name that is not known there. */
    private static String[] placesOfNames() {
        return new String[] {"label #;", "jar #" + JAR, BASE + "lid # on j for a;", BASE + "lid l on # for a;",
            BASE + "lid l on j for #;", BASE + "lid l on j for a when first #();",
            BASE + "lid l on j for a when allied #();", BASE + "lid l on j for a when beans #=1();",
            BASE + "lid l on j for a when 1=seats #();", BASE + "lid l on j for a when 1=1(hop #);",
            BASE + "lid l on j for a when 1=1(join #);", BASE + "lid l on j for a when 1=1(win 1 from #);"};
    }

    private static void wordsOfEightLetters() {
        for (String place : placesOfNames()) {
            int at = place.indexOf('#');
            reads(place.replace("#", "abcdefghi"), 1, at);
            reads(place.replace("#", "turnoutsx"), 1, at);
            reads(place.replace("#", many("z", 100)), 1, at);
            reads(place.replace("#", "7"), 1, at);
        }
        for (int letters = 1; letters <= 8; letters++) {
            String name = "zyxwvuts".substring(8 - letters);
            String jar = "jar" + name.substring(Math.min(3, letters));
            isBook("label " + name + ";jar o" + JAR + "lid l on o for " + name + " when first " + name
                    + " and allied " + name + " and beans " + name + "=seats " + name + "(join " + name
                    + " win 1 from " + name + ");");
            isBook("label " + name + ";jar o" + JAR + "lid n" + name.substring(1) + " on o for " + name + ";");
            if (letters > 3) {
                isBook("label " + name + ";jar " + jar + JAR + "lid l on " + jar + " for " + name
                        + " when 1=1(hop " + jar + ");");
            }
        }
        reads("labelabe a;", 1, 0);
        isBook("label turnouts;label turnou;label sturnout;label dividee;label a;label z;");
    }

    private static void numbersOfFourDigits() {
        String[] places = {"label a;label b;jar j seats # by most holds 1,2;",
            "label a;label b;jar j seats 1 by most holds #,2;", "label a;label b;jar j seats 1 by most holds 1,#;",
            LID + "when #=1();", LID + "when 1=#();", LID + "when 1=1(win # from a);",
            LID + "when 1=2*(3+#)();"};
        for (String place : places) {
            int at = place.indexOf('#');
            for (String good : new String[] {"1", "01", "001", "0001"}) {
                isBook(place.replace("#", good));
            }
            for (String bad : new String[] {"00001", "10000", "99999", "000000000001", "4294967297"}) {
                reads(place.replace("#", bad), 1, at);
            }
        }
        Check.same("the longest number", Books.taught(LID + "when 9999=9998+1();").ruleOfLid(0), 0);
        Check.same("a number with a 0 ahead", Books.taught(LID + "when 0010=9+1();").ruleOfLid(0), 0);
    }

    /** What stands in { } can stand there any number of times, also none. */
    private static void repeatedParts() {
        isBook("");
        isBook("label a;jar j seats 1 by most holds 1;lid l on j for a;");
        isBook(LID + "when 1=1();");
        isBook(LID + "when " + many("not ", 370) + "1=1();");
        isBook(LID + "when " + many("1=1 and ", 90) + "1=1();");
        isBook(LID + "when " + many("1=1 or ", 90) + "1=1();");
        isBook(LID + "when 1=1" + many("*1", 180) + "();");
        isBook(LID + "when 1=1" + many("-1", 180) + "();");
        Check.same("an even row of not", Books.taught(LID + "when " + many("not ", 370) + "1=1();").ruleOfLid(0), 0);
        Check.same("an odd row of not", Books.taught(LID + "when " + many("not ", 369) + "1=1();").ruleOfLid(0), -1);
        Check.same("a long row of and",
                Books.taught(LID + "when " + many("1=1 and ", 90) + "1=2();").ruleOfLid(0), -1);
        Check.same("a long row of or",
                Books.taught(LID + "when 1=1" + many(" or 1=2", 90) + "();").ruleOfLid(0), 0);
        Check.same("a long row of -",
                Books.taught(LID + "when 180=360" + many("-1", 180) + "();").ruleOfLid(0), 0);
    }

    private static void sixBrackets() {
        int at = LID.length();
        for (int tests = 0; tests <= 6; tests++) {
            String open = many("[", tests);
            String close = many("]", tests);
            String values = many("(", 6 - tests);
            String ends = many(")", 6 - tests);
            isBook(LID + "when " + open + values + "1" + ends + "=1" + close + "();");
            isBook(LID + "when " + open + "1=" + values + "1" + ends + close + "();");
            reads(LID + "when " + open + values + "(1)" + ends + "=1" + close + "();", 1, at + 11);
            reads(LID + "when " + open + "1=" + values + "(1)" + ends + close + "();", 1, at + 13);
            reads(LID + "when " + open + values + "(", 1, at + 11);
        }
        reads(LID + "when [[[[[[[", 1, at + 11);
        isBook(LID + "when [[[[[[1=1]]]]]and[[[[[1=1]]]]]]();");
        reads(LID + "when [[[[[[1=1]]]]]and[[[[[[1=1]]]]]]]();", 1, at + 27);
        isBook(LID + "when ((((((1))))))+((((((1))))))*((((((1))))))<((((((1))))))();");
        isBook(LID + "when (((((1)))))=((((((2))))))and[[[[[[1=1]]]]]]or not[[[[[[1=1]]]]]]();");
        isBook(LID + "when (1+(((((2)))))*(((((3))))))=1();");
        reads(LID + "when (1+(((((2)))))*((((((3)))))))=1();", 1, at + 25);
        isBook(LID + "when [[[[[[1=1]]]]]](win ((((((1)))))) from a win ((((((2)))))) from a)"
                + "when [[[[[[1=1]]]]]](win ((((((1)))))) from a);");
        reads(LID + "when 1=1(win 1 from a win (((((((1))))))) from a);", 1, at + 32);
        reads(LID + "when 1=1(win [1] from a);", 1, at + 13);
        reads(LID + "when 1=1((shake));", 1, at + 9);
    }

    private static void fourHundredTokens() {
        // 18 tokens up to the lid's label, 2 for each +1, 7 more
        String of399 = LID + "when 1" + many("+1", 187) + "=1();";
        String full = of399.replace("when 1", "when not 1");
        String open = LID + "when 1" + many("+1", 190);
        isBook(of399);
        isBook(of399.replace("when 1+1", "when 1") + "label b;");
        isBook(full);
        isBook(full + " \n" + many(" ", 30));
        reads(full.replace("when not", "when not not"), 1, full.length() + 3);
        reads(of399 + "label b;", 1, full.length() + 2);
        reads(full + "label b;", 1, full.length());
        reads(full + " \n label b;", 1, full.length() + 3);
        reads(full + ";", 1, full.length());
        reads(full + "abcdefghi", 1, full.length());
        reads(full + "\0", 1, full.length());
        // 400 tokens that are no book end at the end of the tape, 401 with the last one
        reads(open, 1, open.length());
        reads(open + "  ", 1, open.length() + 2);
        reads(open + "+", 1, open.length());
        reads(open + " + ", 1, open.length() + 1);
        reads(open + "=", 1, open.length());
        // 3 for each line
        reads(many("label a;", 133), 2, 14);
        reads(many("label a;", 133) + "label", 1, 133 * 8 + 5);
        reads(many("label a;", 133) + "label b", 1, 133 * 8 + 6);
        reads(many("label a;", 134), 1, 133 * 8 + 6);
    }

    private static void namesThatAreTaken() {
        String[] ahead = {"label x;" + BASE, BASE + "jar x" + JAR, BASE + "lid x on j for a;"};
        String[] lines = {"label #;", "jar #" + JAR, "lid # on j for a;"};
        for (String first : ahead) {
            for (String line : lines) {
                reads(first + line.replace("#", "x"), 2, first.length() + line.indexOf('#'));
                isBook(first + line.replace("#", "y"));
                isBook(first + line.replace("#", "xx"));
                // the first of several
                reads(first + line.replace("#", "x") + line.replace("#", "x"), 2,
                        first.length() + line.indexOf('#'));
            }
        }
    }

    /** Each # is to be a jar ahead of it, or a label ahead of it. */
    private static void namesThatAreUnknown() {
        String[] jars = {"lid l on # for a;", "lid l on j for a when 1=1(hop #);"};
        String[] labels = {"lid l on j for #;", "lid l on j for a when first #();", "lid l on j for a when allied #();",
            "lid l on j for a when not[1=1 and allied #]();", "lid l on j for a when beans #=1();",
            "lid l on j for a when 1=2*(beans #)();", "lid l on j for a when seats #=1();",
            "lid l on j for a when 1=3-seats #();", "lid l on j for a when 1=1(shake join #);",
            "lid l on j for a when 1=1(win 1 from #);", "lid l on j for a when 1=1(win seats # from a);"};
        String start = BASE + "lid o on j for a;";
        String later = "label y;jar w" + JAR + "lid v on j for a;";
        for (String line : jars) {
            for (String bad : new String[] {"a", "o", "l", "x", "w", "jj"}) {
                reads(start + line.replace("#", bad) + later, 3, start.length() + line.indexOf('#'));
            }
            isBook(start + line.replace("#", "j") + later);
            isBook(start + line.replace("#", "k") + later);
        }
        for (String line : labels) {
            for (String bad : new String[] {"j", "o", "l", "x", "y", "aa"}) {
                reads(start + line.replace("#", bad) + later, 3, start.length() + line.indexOf('#'));
            }
            isBook(start + line.replace("#", "a") + later);
            isBook(start + line.replace("#", "b") + later);
        }
    }

    private static String linesOf(String line, String names) {
        StringBuilder all = new StringBuilder();
        for (char name : names.toCharArray()) {
            all.append(line.replace('#', name));
        }
        return all.toString();
    }

    private static void seventhLabelNinthJarSeventhLid() {
        isBook(SIX);
        reads(SIX + "label g;", 4, SIX.length() + 6);
        reads(SIX + "label f;", 2, SIX.length() + 6);
        reads(SIX + "jar j" + JAR + "label j;", 2, SIX.length() + 5 + JAR.length() + 6);
        reads(SIX + "label g;label h;", 4, SIX.length() + 6);
        String jars = SIX + linesOf("jar #" + JAR, "ghijklmn");
        isBook(jars);
        reads(jars + "jar o" + JAR, 4, jars.length() + 4);
        reads(jars + "jar n" + JAR, 2, jars.length() + 4);
        reads(jars + "jar a" + JAR, 2, jars.length() + 4);
        reads(jars + "label o;", 4, jars.length() + 6);
        String lids = jars + linesOf("lid # on n for f;", "opqrst");
        isBook(lids);
        reads(lids + "lid u on n for f;", 4, lids.length() + 4);
        reads(lids + "lid t on n for f;", 2, lids.length() + 4);
        reads(lids + "lid g on n for f;", 2, lids.length() + 4);
        reads(lids + "lid a on n for f;", 2, lids.length() + 4);
        reads(lids + "jar u" + JAR, 4, lids.length() + 4);
        reads(lids + "label u;", 4, lids.length() + 6);
        String fewLabels = AJ + linesOf("lid # on j for a;", "opqrst");
        isBook(fewLabels + "label b;jar k" + JAR);
        reads(fewLabels + "label b;lid u on j for a;", 4, fewLabels.length() + 12);
    }

    private static void twentyFifthRule() {
        String all = LID + many("when 1=1()", 24);
        isBook(all + ";");
        reads(all + "when 1=1();", 4, all.length());
        reads(all + " when first z(hop z);", 4, all.length() + 1);
        reads(all + ";lid m on j for a when 1=1();", 4, all.length() + 18);
        StringBuilder lids = new StringBuilder(AJ);
        for (char lid = 'o'; lid <= 't'; lid++) {
            lids.append("lid ").append(lid).append(" on j for a ").append(many("when 1=1()", 4)).append(';');
        }
        isBook(lids.toString());
        String last = lids.substring(0, lids.length() - 1);
        reads(last + "when 1=1();", 4, last.length());
    }

    private static void sixtyFirstAct() {
        String[] acts = {"shake", "leave", "hop j", "join a", "win 1 from a"};
        String one = LID + "when 1=1(" + many("shake ", 59);
        String two = LID + "when 1=1(" + many("leave ", 20) + ")when 1=1(" + many("hop j ", 20)
                + ");lid m on j for a when 1=1(" + many("win 1 from a ", 19);
        for (String of59 : new String[] {one, two}) {
            String all = of59 + "join a ";
            isBook(all + ");");
            isBook(all + ")when 1=1();");
            for (String act : acts) {
                isBook(of59 + act + ");");
                reads(all + act + ");", 4, all.length());
                reads(all + ")when 1=1(" + act + ");", 4, all.length() + 10);
                reads(all + ");lid n on j for a when 1=1(" + act + ");", 4, all.length() + 28);
            }
            reads(all + "hop z);", 4, all.length());
            reads(all + "win beans z from z);", 4, all.length());
        }
        reads(LID + many("when 1=1()", 24) + "when 1=1(" + many("shake ", 61) + ");", 4, LID.length() + 240);
    }

    /** Everything that a book can have at most, in one. */
    private static void fullBook() {
        StringBuilder text = new StringBuilder(SIX);
        text.append(linesOf("jar # seats 9 by most holds 200;", "ghijklmn"));
        for (char lid = 'o'; lid <= 't'; lid++) {
            text.append("lid ").append(lid).append(" on g for f ");
            text.append(many("when 1=1()", 3)).append("when 1=1(").append(many("shake ", 10)).append(");");
        }
        CupboardPoll poll = Books.taught(text.toString());
        Check.same("labels() of the full book", poll.labels(), 6);
        Check.same("jars() of the full book", poll.jars(), 8);
        Check.same("lids() of the full book", poll.lids(), 6);
        Check.same("seatsInAll(0) of the full book", poll.seatsInAll(0), 72);
        Check.same("beansOf(5) of the full book", poll.beansOf(5), 0);
        Check.same("beansOf(0) of the full book", poll.beansOf(0), 1600);
        Check.same("turnout(7) of the full book", poll.turnout(7), 200);
        Check.sameDouble("meanMargin() of the full book", poll.meanMargin(), 200);
        Check.same("bestJarFor(5) of the full book", poll.bestJarFor(5), 0);
        Check.same("beansToWin(7, 5) of the full book", poll.beansToWin(7, 5), 101);
        Check.same("daysUntilMajority(5) of the full book", poll.daysUntilMajority(5), -1);
        Check.same("seatsAfter(0, 60) of the full book", poll.seatsAfter(0, 60), 72);
        Check.same("pass(60) of the full book: the first rules are without acts", poll.pass(60), 0);
        CupboardPoll busy = Books.taught(text.toString().replace("1=1()", "1=2()"));
        Check.same("ruleOfLid(5), the last of all rules", busy.ruleOfLid(5), 3);
        Check.same("pass(1), all acts", busy.pass(1), 60);
        Check.same("pass(60), all acts", busy.pass(60), 3600);
    }

    private static void seatsOfJars() {
        String start = "label a;jar j seats ";
        for (int seats = 0; seats <= 12; seats++) {
            boolean isGood = seats >= 1 && seats <= 9;
            reads(start + seats + " by most holds 1;", isGood ? 0 : 5, isGood ? -1 : start.length());
            if (isGood) {
                Check.same("seatsOf(0)", Books.taught(start + seats + " by most holds 1;").seatsOf(0), seats);
            }
        }
        for (int seats : new int[] {19, 90, 99, 100, 256, 257, 1000, 9999}) {
            reads(start + seats + " by quota holds 1;", 5, start.length());
        }
    }

    private static void beansOfJars() {
        String start = "label a;label b;jar j seats 1 by divide holds ";
        for (int beans : new int[] {0, 1, 9, 10, 99, 100, 127, 128, 199, 200}) {
            isBook(start + beans + ";");
            isBook(start + "200," + beans + ";");
            Check.same("beansIn(0, 1)", Books.taught(start + "3," + beans + ";").beansIn(0, 1), beans);
        }
        for (int beans : new int[] {201, 202, 210, 255, 256, 300, 999, 1000, 2000, 9999}) {
            reads(start + beans + ";", 5, start.length());
            reads(start + "200," + beans + ";", 5, start.length() + 4);
            reads(start + beans + "," + beans + ";", 5, start.length());
        }
    }

    private static void oneNumberForEachLabel() {
        for (int labels = 0; labels <= 6; labels++) {
            String start = SIX.substring(0, 8 * labels) + "jar j seats 1 by most holds ";
            if (labels > 0) {
                isBook(start + "0" + many(",200", labels - 1) + ";" + SIX.substring(8 * labels));
            }
            String full = start + many("7,", labels);
            reads(full + "0;" + SIX.substring(8 * labels), 5, full.length());
            reads(full + "0,0,999;", 5, full.length());
            reads(full + "201;", 5, full.length());
        }
        CupboardPoll poll = Books.taught("label a;label b;jar j seats 1 by most holds 5;label c;");
        Check.same("a label without a number", poll.beansIn(0, 1), 0);
        Check.same("a label behind the jar", poll.beansIn(0, 2), 0);
    }

    /** Parts that are wrong each for itself: the first of them is told, until all are right. */
    private static void firstErrorInLine() {
        String[][] lid = {{"lid ", "o", "2", "p"}, {" on ", "x", "3", "j"}, {" for ", "y", "3", "b"},
            {" when first ", "j", "3", "a"}, {" and allied ", "o", "3", "b"}, {" or beans ", "z", "3", "a"},
            {"=seats ", "z", "3", "b"}, {"(win beans ", "z", "3", "a"}, {" from ", "z", "3", "b"},
            {" hop ", "z", "3", "k"}, {" join ", "z", "3", "a"}, {")", "", "0", ""}};
        inTurn(BASE + "lid o on j for a;", lid);
        String[][] jar = {{"jar ", "o", "2", "p"}, {" seats ", "0", "5", "9"}, {" by most holds ", "201", "5", "200"},
            {",", "999", "5", "0"}, {"", "", "0", ""}, {",", "0", "5", ""}};
        inTurn(BASE + "lid o on j for a;", jar);
        String lids = BASE + linesOf("lid # on j for a;", "opqrst");
        reads(lids + "lid u on x for a;", 4, lids.length() + 4);
        String rules = BASE + "lid o on j for a " + many("when 1=1()", 23) + "when 1=1(" + many("shake ", 60) + ")";
        reads(rules + "when first x(shake);", 4, rules.length());
        String acts = rules.substring(0, rules.length() - 1);
        reads(acts + "hop x)when 1=1();", 4, acts.length());
        reads(acts.substring(0, acts.length() - 6) + "hop x shake)when 1=1();", 3, acts.length() - 2);
    }

    /** Parts: what stands ahead, what is wrong, its error (0 for none, and nothing behind it), what is right. */
    private static void inTurn(String start, String[][] parts) {
        for (int n = 0; n < parts.length; n++) {
            int error = Integer.parseInt(parts[n][2]);
            StringBuilder text = new StringBuilder(start);
            int at = -1;
            for (int m = 0; m < (error == 0 ? n + 1 : parts.length); m++) {
                text.append(parts[m][0]);
                at = m == n && error != 0 ? text.length() : at;
                text.append(parts[m][m < n ? 3 : 1]);
            }
            reads(text + ";", error, at);
        }
    }

    /** Each error ahead of each other one: that of the smaller position is told. */
    private static void firstErrorOfTwoLines() {
        String start = SIX + "jar j" + JAR;
        // line, error, position in the line; # is a name of its own
        String[][] lines = {{"jar a" + JAR, "2", "4"}, {"lid # on x for a;", "3", "9"}, {"lid # on j for x;", "3", "15"},
            {"label #;", "4", "6"}, {"jar # seats 0 by most holds 1;", "5", "12"},
            {"jar # seats 1 by most holds 1,2,201;", "5", "32"}};
        for (String[] one : lines) {
            for (String[] other : lines) {
                reads(start + one[0].replace('#', 'p') + other[0].replace('#', 'q'), Integer.parseInt(one[1]),
                        start.length() + Integer.parseInt(one[2]));
            }
        }
    }

    /** Wherever error 1 stands, the others are not told. */
    private static void errorOneAheadOfOthers() {
        String start = SIX + "jar j" + JAR;
        String[] wrong = {"jar a" + JAR, "lid p on x for a;", "label p;", "jar p seats 0 by most holds 1;",
            "lid p on j for a when 1=1(hop x);", "lid p on j for a when first x();"};
        for (String line : wrong) {
            String text = start + line;
            reads(text + "label", 1, text.length() + 5);
            reads(text + "jar k seats 1 by most holds;", 1, text.length() + 27);
            reads(text + "lid k on j for a when 1=1(win (((((((1))))))) from a);", 1, text.length() + 36);
            reads(text + "lid k on j for a when [[[[[[[1=1]]]]]]]();", 1, text.length() + 28);
            reads(text + "lid k on j for a when 1=1(win 1 from a", 1, text.length() + 38);
            reads(text + "label abcdefghi;", 1, text.length() + 6);
            reads(text + "jar k seats 00001 by most holds 1;", 1, text.length() + 12);
            reads(text + "?", 1, text.length());
            String tokens = text + "lid k on j for a when 1=1";
            reads(tokens + many("+1", 200) + "();", 1, tokens.length() + endOfTokens(tokens));
        }
        // at the very token of another one
        reads(SIX + "label 7;", 1, SIX.length() + 6);
        reads(SIX + "label label;", 1, SIX.length() + 6);
        reads("label a;label a 1;", 1, 16);
        reads("label a;jar j seats a by most holds 1;", 1, 20);
    }

    /** How far behind these tokens the 401st stands, if each of the next ones has one byte. */
    private static int endOfTokens(String text) {
        int count = 0;
        boolean inWord = false;
        for (char c : text.toCharArray()) {
            boolean isWord = c >= 'a' && c <= 'z' || c >= '0' && c <= '9';
            if (c != ' ' && !(isWord && inWord)) {
                count++;
            }
            inWord = isWord;
        }
        return 400 - count;
    }
}
