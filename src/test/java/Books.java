import java.nio.charset.StandardCharsets;

/** Writes texts to the tape of a cupboard. */
final class Books {
    private Books() {
    }

    /** Appends the text and no byte more; the tape has to have room for it in full twenties. */
    static void write(CupboardPoll poll, String text) {
        write(poll, text.getBytes(StandardCharsets.ISO_8859_1));
    }

    static void write(CupboardPoll poll, byte[] bytes) {
        int before = 0;
        for (int from = 0; from < bytes.length; from += 20) {
            int after = poll.feed(number(bytes, from), number(bytes, from + 4), number(bytes, from + 8),
                    number(bytes, from + 12), number(bytes, from + 16));
            if (from == 0) {
                before = after - 20;
            }
        }
        if (bytes.length > 0) {
            poll.trim(before + bytes.length);
        }
    }

    /** A cupboard that was taught the text, which must be without error. */
    static CupboardPoll taught(String text) {
        CupboardPoll poll = new CupboardPoll();
        write(poll, text);
        int error = poll.teach();
        if (error != 0) {
            Check.same("teach() of \"" + text + "\" at " + poll.errorAt(), error, 0);
        }
        return poll;
    }

    private static int number(byte[] bytes, int from) {
        int number = 0;
        for (int n = from; n < from + 4; n++) {
            number = number << 8 | (n < bytes.length ? bytes[n] & 255 : ' ');
        }
        return number;
    }
}
