/** What the tests of books have in common. */
class BookChecks {
    static final String A = "label a;";
    static final String AJ = "label a;jar j seats 1 by most holds 9;";
    static final String LID = AJ + "lid l on j for a ";

    /** Teaches the text; the error and where it is. */
    static void reads(String text, int error, int at) {
        CupboardPoll poll = new CupboardPoll();
        Books.write(poll, text);
        String what = "\"" + text.replace("\n", "\\n") + "\"";
        Check.same("teach() of " + what, poll.teach(), error);
        Check.same("errorAt() of " + what, poll.errorAt(), at);
    }

    static void isBook(String text) {
        reads(text, 0, -1);
    }

    static String many(String text, int times) {
        StringBuilder all = new StringBuilder();
        for (int n = 0; n < times; n++) {
            all.append(text);
        }
        return all.toString();
    }
}
