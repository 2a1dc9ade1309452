/**
 * Elections in a cupboard: jars are wards in which beans vote for labels, labels form alliances
 * that win seats, and lids campaign on jars by the rules of a book.
 */
public final class CupboardPoll {
    private static final int BYTES = 1600;
    private static final int TOKENS = 400;
    private static final int LETTERS = 8;
    private static final int DIGITS = 4;
    private static final int BRACKETS = 6;
    private static final int LABELS = 6;
    private static final int JARS = 8;
    private static final int LIDS = 6;
    private static final int RULES = 24;
    private static final int ACTS = 60;
    private static final int SEATS = 9;
    private static final int BEANS = 200;
    private static final int DAYS = 60;
    private static final int DAYS_AHEAD = 100;
    private static final int NONE = -1;
    private static final Kind[] KINDS = Kind.values();

    private final Tape tape = new Tape();
    private final Reader reader = new Reader();
    private final Cupboard now = new Cupboard();
    private final Cupboard later = new Cupboard();
    private final Campaign campaign = new Campaign();
    private Book book = new Book();
    private int latestErrorAt = NONE;

    public CupboardPoll() {
    }

    // ---- the book

    public int feed(int a, int b, int c, int d, int e) throws IllegalStateException {
        if (!tape.hasRoomFor(20)) {
            throw new IllegalStateException();
        }
        tape.append(a);
        tape.append(b);
        tape.append(c);
        tape.append(d);
        tape.append(e);
        return tape.length;
    }

    public int trim(int bytes) throws IllegalArgumentException {
        if (bytes < 0 || bytes > tape.length) {
            throw new IllegalArgumentException();
        }
        tape.length = bytes;
        return bytes;
    }

    public int teach() {
        int error = reader.read(tape);
        latestErrorAt = reader.errorAt;
        tape.length = 0;
        if (error == 0) {
            book = reader.handOver(book);
            now.becomeLike(book.start);
        }
        return error;
    }

    public int errorAt() {
        return latestErrorAt;
    }

    // ---- the cupboard

    public int labels() {
        return book.labels;
    }

    public int jars() {
        return book.jars;
    }

    public int lids() {
        return book.lids;
    }

    public int days() {
        return now.day;
    }

    public int alliances() {
        int found = 0;
        for (int label = 0; label < book.labels; label++) {
            if (now.leaders[label] == label) {
                found++;
            }
        }
        return found;
    }

    public int beansIn(int jar, int label) throws IndexOutOfBoundsException {
        checkJar(jar);
        checkLabel(label);
        return now.jars[jar].beans[label];
    }

    public int beansOf(int label) throws IndexOutOfBoundsException {
        checkLabel(label);
        int beans = 0;
        for (int jar = 0; jar < book.jars; jar++) {
            beans += now.jars[jar].beans[label];
        }
        return beans;
    }

    public int turnout(int jar) throws IndexOutOfBoundsException {
        checkJar(jar);
        return now.counted(jar).turnout;
    }

    public int seatsOf(int jar) throws IndexOutOfBoundsException {
        checkJar(jar);
        return now.jars[jar].seats;
    }

    public int leaderOf(int label) throws IndexOutOfBoundsException {
        checkLabel(label);
        return now.leaders[label];
    }

    public boolean areAllied(int one, int other) throws IndexOutOfBoundsException {
        checkLabel(one);
        checkLabel(other);
        return now.leaders[one] == now.leaders[other];
    }

    // ---- who wins

    public int firstIn(int jar) throws IndexOutOfBoundsException {
        checkJar(jar);
        return now.counted(jar).first;
    }

    public int marginIn(int jar) throws IndexOutOfBoundsException {
        checkJar(jar);
        return now.counted(jar).margin;
    }

    public int allianceBeans(int jar, int label) throws IndexOutOfBoundsException {
        checkJar(jar);
        checkLabel(label);
        return now.counted(jar).pooled[now.leaders[label]];
    }

    public int seatsWon(int jar, int label) throws IndexOutOfBoundsException {
        checkJar(jar);
        checkLabel(label);
        return now.counted(jar).won[now.leaders[label]];
    }

    public int emptySeats(int jar) throws IndexOutOfBoundsException {
        checkJar(jar);
        return now.counted(jar).emptySeatsLeft();
    }

    public int seatsInAll(int label) throws IndexOutOfBoundsException {
        checkLabel(label);
        return now.allSeats(label);
    }

    public int leading() {
        int best = NONE;
        int most = NONE;
        for (int label = 0; label < book.labels; label++) {
            if (now.leaders[label] == label && now.allSeats(label) > most) {
                best = label;
                most = now.allSeats(label);
            }
        }
        return best;
    }

    public boolean hasMajority(int label) throws IndexOutOfBoundsException {
        checkLabel(label);
        return now.governs(label);
    }

    // ---- lids

    public int jarOfLid(int lid) throws IndexOutOfBoundsException {
        checkLid(lid);
        return now.lidJars[lid];
    }

    public int labelOfLid(int lid) throws IndexOutOfBoundsException {
        checkLid(lid);
        return book.lidLabels[lid];
    }

    public int ruleOfLid(int lid) throws IndexOutOfBoundsException {
        checkLid(lid);
        int rule = campaign.ruleFor(book, now, lid);
        return rule == NONE ? NONE : rule - book.lidRules[lid];
    }

    // ---- by hand

    public int pour(int jar, int from, int to, int beans)
            throws IndexOutOfBoundsException, IllegalArgumentException {
        checkJar(jar);
        checkLabel(from);
        checkLabel(to);
        if (from == to || beans < 1 || beans > BEANS) {
            throw new IllegalArgumentException();
        }
        return now.jars[jar].move(from, to, beans);
    }

    public int shake(int jar) throws IndexOutOfBoundsException {
        checkJar(jar);
        now.jars[jar].stir(book.labels);
        return now.counted(jar).first;
    }

    public int putLid(int lid, int jar) throws IndexOutOfBoundsException {
        checkLid(lid);
        checkJar(jar);
        int before = now.lidJars[lid];
        now.lidJars[lid] = jar;
        return before;
    }

    public int join(int label, int to) throws IndexOutOfBoundsException, IllegalStateException {
        checkLabel(label);
        checkLabel(to);
        if (!now.mayFollow(label, to)) {
            throw new IllegalStateException();
        }
        now.follow(label, to);
        return now.leaders[label];
    }

    public int leave(int label) throws IndexOutOfBoundsException, IllegalStateException {
        checkLabel(label);
        int before = now.follows[label];
        if (before == NONE) {
            throw new IllegalStateException();
        }
        now.follow(label, NONE);
        return before;
    }

    public int pass(int days) throws IllegalArgumentException {
        checkDays(days);
        int acts = 0;
        for (int day = 0; day < days; day++) {
            acts += campaign.spendDay(book, now);
        }
        return acts;
    }

    // ---- what would be

    public int seatsAfter(int label, int days)
            throws IndexOutOfBoundsException, IllegalArgumentException {
        checkLabel(label);
        checkDays(days);
        later.becomeLike(now);
        for (int day = 0; day < days; day++) {
            campaign.spendDay(book, later);
        }
        return later.allSeats(label);
    }

    public int daysUntilMajority(int label) throws IndexOutOfBoundsException {
        checkLabel(label);
        later.becomeLike(now);
        for (int day = 0; day < DAYS_AHEAD; day++) {
            if (later.governs(label)) {
                return day;
            }
            campaign.spendDay(book, later);
        }
        return later.governs(label) ? DAYS_AHEAD : NONE;
    }

    public int beansToWin(int jar, int label) throws IndexOutOfBoundsException {
        checkJar(jar);
        checkLabel(label);
        return now.counted(jar).beansMissing(now.leaders[label]);
    }

    public int bestJarFor(int label) throws IndexOutOfBoundsException {
        checkLabel(label);
        int best = NONE;
        int fewest = 0;
        for (int jar = 0; jar < book.jars; jar++) {
            int beans = now.counted(jar).beansMissing(now.leaders[label]);
            if (beans >= 1 && (best == NONE || beans < fewest)) {
                best = jar;
                fewest = beans;
            }
        }
        return best;
    }

    public int firstShaken(int jar) throws IndexOutOfBoundsException {
        checkJar(jar);
        later.becomeLike(now);
        later.jars[jar].stir(book.labels);
        return later.counted(jar).first;
    }

    public double meanMargin() {
        if (book.jars < 1) {
            return 0;
        }
        int margins = 0;
        for (int jar = 0; jar < book.jars; jar++) {
            margins += now.counted(jar).margin;
        }
        return (double) margins / book.jars;
    }

    public long digest() {
        long d = 1949;
        d = d * 31 + labels();
        d = d * 31 + jars();
        d = d * 31 + lids();
        d = d * 31 + days();
        d = d * 31 + alliances();
        d = d * 31 + leading();
        for (int label = 0; label < book.labels; label++) {
            d = withLabel(d, label);
        }
        for (int jar = 0; jar < book.jars; jar++) {
            d = withJar(d, jar);
        }
        for (int lid = 0; lid < book.lids; lid++) {
            d = d * 31 + jarOfLid(lid);
            d = d * 31 + labelOfLid(lid);
            d = d * 31 + ruleOfLid(lid);
        }
        return d;
    }

    private long withLabel(long before, int label) {
        long d = before * 31 + leaderOf(label);
        d = d * 31 + beansOf(label);
        d = d * 31 + seatsInAll(label);
        d = d * 31 + (hasMajority(label) ? 1 : 0);
        return d * 31 + bestJarFor(label);
    }

    private long withJar(long before, int jar) {
        long d = before * 31 + turnout(jar);
        d = d * 31 + seatsOf(jar);
        d = d * 31 + firstIn(jar);
        d = d * 31 + marginIn(jar);
        d = d * 31 + emptySeats(jar);
        d = d * 31 + firstShaken(jar);
        for (int label = 0; label < book.labels; label++) {
            d = d * 31 + beansIn(jar, label);
            d = d * 31 + seatsWon(jar, label);
            d = d * 31 + beansToWin(jar, label);
        }
        return d;
    }

    private void checkJar(int jar) {
        if (jar < 0 || jar >= book.jars) {
            throw new IndexOutOfBoundsException();
        }
    }

    private void checkLabel(int label) {
        if (label < 0 || label >= book.labels) {
            throw new IndexOutOfBoundsException();
        }
    }

    private void checkLid(int lid) {
        if (lid < 0 || lid >= book.lids) {
            throw new IndexOutOfBoundsException();
        }
    }

    private void checkDays(int days) {
        if (days < 1 || days > DAYS) {
            throw new IllegalArgumentException();
        }
    }

    /** What a token can be; the words and signs of the book are told by their text. */
    private enum Kind {
        LABEL("label"), JAR("jar"), SEATS("seats"), BY("by"), HOLDS("holds"), LID("lid"), ON("on"),
        FOR("for"), WHEN("when"), WIN("win"), FROM("from"), HOP("hop"), SHAKE("shake"),
        JOIN("join"), LEAVE("leave"), NOT("not"), AND("and"), OR("or"), FIRST("first"),
        ALLIED("allied"), DAY("day"), BEANS("beans"), MARGIN("margin"), TURNOUT("turnout"),
        MOST("most"), DIVIDE("divide"), QUOTA("quota"),
        OPEN("("), CLOSE(")"), OPEN_TEST("["), CLOSE_TEST("]"), SEMICOLON(";"), COMMA(","),
        LESS("<"), GREATER(">"), EQUAL("="), PLUS("+"), MINUS("-"), TIMES("*"),
        NAME(""), NUMBER(""), END(""), BAD("");

        private final String text;

        Kind(String text) {
            this.text = text;
        }
    }

    /** The bytes that wait to be read as a book. */
    private static final class Tape {
        private final byte[] bytes = new byte[BYTES];
        private int length;

        boolean hasRoomFor(int more) {
            return length <= BYTES - more;
        }

        void append(int number) {
            for (int shift = 24; shift >= 0 && length < BYTES; shift -= 8) {
                bytes[length] = (byte) (number >> shift);
                length++;
            }
        }

        int at(int position) {
            return position >= 0 && position < length ? bytes[position] & 255 : NONE;
        }

        boolean isLetter(int position) {
            return at(position) >= 'a' && at(position) <= 'z';
        }

        boolean isDigit(int position) {
            return at(position) >= '0' && at(position) <= '9';
        }

        boolean isBlank(int position) {
            return at(position) == ' ' || at(position) == '\n';
        }

        boolean reads(String text, int from, int to) {
            if (text.length() != to - from) {
                return false;
            }
            for (int n = 0; n < text.length(); n++) {
                if (at(from + n) != text.charAt(n)) {
                    return false;
                }
            }
            return true;
        }
    }

    /** The tokens of a tape; the last one is END, or BAD where no token can stand. */
    private static final class Tokens {
        private final Kind[] kinds = new Kind[TOKENS + 1];
        private final int[] starts = new int[TOKENS + 1];
        private final long[] values = new long[TOKENS + 1];
        private int count;

        void readFrom(Tape tape) {
            boolean more = true;
            int from = 0;
            for (count = 0; more && count <= TOKENS; count++) {
                from = behindBlanks(tape, from);
                int to = behindToken(tape, from);
                Kind kind = kindOf(tape, from, to);
                if (count == TOKENS && kind != Kind.END) {
                    kind = Kind.BAD;
                }
                kinds[count] = kind;
                starts[count] = from;
                values[count] = valueOf(tape, kind, from, to);
                more = kind != Kind.END && kind != Kind.BAD;
                from = to;
            }
        }

        Kind kindAt(int token) {
            Kind kind = token >= 0 && token < count ? kinds[token] : Kind.BAD;
            return kind == null ? Kind.BAD : kind;
        }

        int startAt(int token) {
            return token >= 0 && token < count ? starts[token] : 0;
        }

        long valueAt(int token) {
            return token >= 0 && token < count ? values[token] : 0;
        }

        private int behindBlanks(Tape tape, int from) {
            int to = from;
            while (to < tape.length && tape.isBlank(to)) {
                to++;
            }
            return to;
        }

        private int behindToken(Tape tape, int from) {
            int to = from + 1;
            if (tape.isLetter(from)) {
                while (to < tape.length && tape.isLetter(to)) {
                    to++;
                }
            } else if (tape.isDigit(from)) {
                while (to < tape.length && tape.isDigit(to)) {
                    to++;
                }
            }
            return to;
        }

        private Kind kindOf(Tape tape, int from, int to) {
            if (from >= tape.length) {
                return Kind.END;
            }
            for (int n = 0; n < KINDS.length; n++) {
                if (tape.reads(KINDS[n].text, from, to)) {
                    return KINDS[n];
                }
            }
            if (tape.isLetter(from) && to - from <= LETTERS) {
                return Kind.NAME;
            }
            return tape.isDigit(from) && to - from <= DIGITS ? Kind.NUMBER : Kind.BAD;
        }

        /** A name becomes a number with five bits for each letter, so that names compare as numbers. */
        private long valueOf(Tape tape, Kind kind, int from, int to) {
            long value = 0;
            if (kind == Kind.NAME) {
                for (int n = from; n < to; n++) {
                    value = value * 32 + tape.at(n) - 'a' + 1;
                }
            } else if (kind == Kind.NUMBER) {
                for (int n = from; n < to; n++) {
                    value = value * 10 + tape.at(n) - '0';
                }
            }
            return value;
        }
    }

    /**
     * Reads tokens as a book and fills a draft with it. An error of the grammar ends the reading;
     * behind any other error only the grammar is looked at, since its error would go ahead.
     */
    private static final class Reader {
        private final Tokens tokens = new Tokens();
        private Book draft = new Book();
        private int next;
        private Kind kind = Kind.END;
        private int error;
        private int errorToken;
        private int errorAt = NONE;

        int read(Tape tape) {
            tokens.readFrom(tape);
            draft.empty();
            error = 0;
            next = 0;
            kind = tokens.kindAt(0);
            for (int n = 0; n < TOKENS && kind != Kind.END && error != 1; n++) {
                if (kind == Kind.LABEL) {
                    labelLine();
                } else if (kind == Kind.JAR) {
                    jarLine();
                } else {
                    lidLine();
                }
                take(Kind.SEMICOLON);
            }
            errorAt = error == 0 ? NONE : tokens.startAt(errorToken);
            return error;
        }

        /** The book that was read; the given one, which is not used any more, is the next draft. */
        Book handOver(Book old) {
            Book read = draft;
            draft = old;
            return read;
        }

        private void labelLine() {
            take(Kind.LABEL);
            lookAtNewName(draft.labels >= LABELS);
            if (error == 0) {
                draft.addLabel(tokens.valueAt(next));
            }
            take(Kind.NAME);
        }

        private void jarLine() {
            take(Kind.JAR);
            lookAtNewName(draft.jars >= JARS);
            if (error == 0) {
                draft.addJar(tokens.valueAt(next));
            }
            take(Kind.NAME);
            take(Kind.SEATS);
            int seats = (int) tokens.valueAt(next);
            if (seats < 1 || seats > SEATS) {
                report(5);
            }
            take(Kind.NUMBER);
            take(Kind.BY);
            Kind way = kind;
            take(way == Kind.MOST || way == Kind.DIVIDE ? way : Kind.QUOTA);
            if (error == 0) {
                draft.setSeats(seats, way);
            }
            take(Kind.HOLDS);
            hold(0);
            for (int label = 1; label < TOKENS && kind == Kind.COMMA; label++) {
                take(Kind.COMMA);
                hold(label);
            }
        }

        private void hold(int label) {
            int beans = (int) tokens.valueAt(next);
            if (beans > BEANS || label >= draft.labels) {
                report(5);
            }
            if (error == 0) {
                draft.setBeans(label, beans);
            }
            take(Kind.NUMBER);
        }

        private void lidLine() {
            take(Kind.LID);
            lookAtNewName(draft.lids >= LIDS);
            long name = tokens.valueAt(next);
            take(Kind.NAME);
            take(Kind.ON);
            int jar = jarHere();
            take(Kind.NAME);
            take(Kind.FOR);
            int label = labelHere();
            take(Kind.NAME);
            if (error == 0) {
                draft.addLid(name, jar, label);
            }
            for (int n = 0; n < TOKENS && kind == Kind.WHEN; n++) {
                ruleOfBook();
            }
        }

        private void ruleOfBook() {
            if (draft.script.rules >= RULES) {
                report(4);
            }
            take(Kind.WHEN);
            if (error == 0) {
                draft.addRule();
            }
            test(0);
            take(Kind.OPEN);
            if (error == 0) {
                draft.script.endTest();
            }
            for (int n = 0; n < TOKENS && kind != Kind.CLOSE && error != 1; n++) {
                act();
            }
            take(Kind.CLOSE);
            if (error == 0) {
                draft.script.endActs();
            }
        }

        private void act() {
            Kind word = kind;
            if (draft.script.acts >= ACTS) {
                report(4);
            }
            if (error == 0) {
                draft.script.acts++;
            }
            if (word == Kind.WIN) {
                take(Kind.WIN);
                sum(0);
                take(Kind.FROM);
                step(word, labelHere());
                take(Kind.NAME);
            } else if (word == Kind.HOP) {
                take(Kind.HOP);
                step(word, jarHere());
                take(Kind.NAME);
            } else if (word == Kind.JOIN) {
                take(Kind.JOIN);
                step(word, labelHere());
                take(Kind.NAME);
            } else {
                step(word, 0);
                take(word == Kind.SHAKE ? Kind.SHAKE : Kind.LEAVE);
            }
        }

        private void test(int brackets) {
            both(brackets);
            for (int n = 0; n < TOKENS && kind == Kind.OR; n++) {
                take(Kind.OR);
                both(brackets);
                step(Kind.OR, 0);
            }
        }

        private void both(int brackets) {
            single(brackets);
            for (int n = 0; n < TOKENS && kind == Kind.AND; n++) {
                take(Kind.AND);
                single(brackets);
                step(Kind.AND, 0);
            }
        }

        private void single(int brackets) {
            boolean turned = false;
            for (int n = 0; n < TOKENS && kind == Kind.NOT; n++) {
                take(Kind.NOT);
                turned = !turned;
            }
            kept(brackets);
            if (turned) {
                step(Kind.NOT, 0);
            }
        }

        private void kept(int brackets) {
            Kind word = kind;
            if (word == Kind.OPEN_TEST && brackets < BRACKETS) {
                take(Kind.OPEN_TEST);
                test(brackets + 1);
                take(Kind.CLOSE_TEST);
            } else if (word == Kind.FIRST || word == Kind.ALLIED) {
                take(word);
                step(word, labelHere());
                take(Kind.NAME);
            } else {
                sum(brackets);
                Kind sign = kind;
                take(sign == Kind.LESS || sign == Kind.GREATER ? sign : Kind.EQUAL);
                sum(brackets);
                step(sign, 0);
            }
        }

        private void sum(int brackets) {
            product(brackets);
            for (int n = 0; n < TOKENS && (kind == Kind.PLUS || kind == Kind.MINUS); n++) {
                Kind sign = kind;
                take(sign);
                product(brackets);
                step(sign, 0);
            }
        }

        private void product(int brackets) {
            atom(brackets);
            for (int n = 0; n < TOKENS && kind == Kind.TIMES; n++) {
                take(Kind.TIMES);
                atom(brackets);
                step(Kind.TIMES, 0);
            }
        }

        private void atom(int brackets) {
            Kind word = kind;
            if (word == Kind.OPEN && brackets < BRACKETS) {
                take(Kind.OPEN);
                sum(brackets + 1);
                take(Kind.CLOSE);
            } else if (word == Kind.BEANS || word == Kind.SEATS) {
                take(word);
                step(word, labelHere());
                take(Kind.NAME);
            } else if (word == Kind.DAY || word == Kind.MARGIN || word == Kind.TURNOUT) {
                step(word, 0);
                take(word);
            } else {
                step(Kind.NUMBER, (int) tokens.valueAt(next));
                take(Kind.NUMBER);
            }
        }

        private void lookAtNewName(boolean tooMany) {
            if (draft.hasName(tokens.valueAt(next))) {
                report(2);
            }
            if (tooMany) {
                report(4);
            }
        }

        private int labelHere() {
            int label = Book.find(draft.labelNames, draft.labels, tokens.valueAt(next));
            if (label == NONE) {
                report(3);
            }
            return label;
        }

        private int jarHere() {
            int jar = Book.find(draft.jarNames, draft.jars, tokens.valueAt(next));
            if (jar == NONE) {
                report(3);
            }
            return jar;
        }

        private void step(Kind what, int number) {
            if (error == 0) {
                draft.script.add(what, number);
            }
        }

        private void take(Kind wanted) {
            if (error == 1) {
                return;
            }
            if (kind == wanted) {
                next++;
                kind = tokens.kindAt(next);
            } else {
                error = 1;
                errorToken = next;
                kind = Kind.BAD;
            }
        }

        /** Keeps the first error; where the token turns out to be wrong by grammar, take tells that. */
        private void report(int number) {
            if (error == 0) {
                error = number;
                errorToken = next;
            }
        }
    }

    /** What a book tells: the names, how all begins, and the rules of the lids. */
    private static final class Book {
        private final long[] labelNames = new long[LABELS];
        private final long[] jarNames = new long[JARS];
        private final long[] lidNames = new long[LIDS];
        private final int[] lidLabels = new int[LIDS];
        private final int[] lidRules = new int[LIDS];
        private final int[] lidRulesEnd = new int[LIDS];
        private final Cupboard start = new Cupboard();
        private final Script script = new Script();
        private int labels;
        private int jars;
        private int lids;

        void empty() {
            labels = 0;
            jars = 0;
            lids = 0;
            start.empty();
            script.empty();
        }

        static int find(long[] names, int count, long name) {
            for (int n = 0; n < count && n < names.length; n++) {
                if (names[n] == name) {
                    return n;
                }
            }
            return NONE;
        }

        boolean hasName(long name) {
            return find(labelNames, labels, name) != NONE || find(jarNames, jars, name) != NONE
                    || find(lidNames, lids, name) != NONE;
        }

        void addLabel(long name) {
            if (labels < LABELS) {
                labelNames[labels] = name;
                labels++;
            }
        }

        void addJar(long name) {
            if (jars < JARS) {
                jarNames[jars] = name;
                jars++;
            }
        }

        void setSeats(int seats, Kind way) {
            if (jars > 0 && jars <= JARS) {
                start.jars[jars - 1].seats = seats;
                start.jars[jars - 1].way = way;
            }
        }

        void setBeans(int label, int beans) {
            if (jars > 0 && jars <= JARS && label >= 0 && label < LABELS) {
                start.jars[jars - 1].beans[label] = beans;
            }
        }

        void addLid(long name, int jar, int label) {
            if (lids < LIDS) {
                lidNames[lids] = name;
                start.lidJars[lids] = jar;
                lidLabels[lids] = label;
                lidRules[lids] = script.rules;
                lidRulesEnd[lids] = script.rules;
                lids++;
            }
        }

        void addRule() {
            if (lids > 0 && lids <= LIDS && script.rules < RULES) {
                script.beginRule();
                lidRulesEnd[lids - 1] = script.rules;
            }
        }
    }

    /**
     * The rules of a book as steps for a stack: what a step needs stands ahead of it. A rule is a
     * run of steps that leaves the answer of its test, and behind it the steps of its acts.
     */
    private static final class Script {
        private final Kind[] kinds = new Kind[TOKENS];
        private final int[] numbers = new int[TOKENS];
        private final int[] tests = new int[RULES];
        private final int[] testEnds = new int[RULES];
        private final int[] actEnds = new int[RULES];
        private int steps;
        private int rules;
        private int acts;

        void empty() {
            steps = 0;
            rules = 0;
            acts = 0;
        }

        void add(Kind kind, int number) {
            if (steps < TOKENS) {
                kinds[steps] = kind;
                numbers[steps] = number;
                steps++;
            }
        }

        void beginRule() {
            if (rules < RULES) {
                tests[rules] = steps;
                rules++;
            }
        }

        void endTest() {
            if (rules > 0 && rules <= RULES) {
                testEnds[rules - 1] = steps;
            }
        }

        void endActs() {
            if (rules > 0 && rules <= RULES) {
                actEnds[rules - 1] = steps;
            }
        }

        Kind kindAt(int step) {
            Kind kind = step >= 0 && step < steps ? kinds[step] : Kind.BAD;
            return kind == null ? Kind.BAD : kind;
        }

        int numberAt(int step) {
            return step >= 0 && step < steps ? numbers[step] : 0;
        }
    }

    /** A ward. What follows from its beans and the alliances is counted when it is asked for. */
    private static final class Jar {
        private final int[] beans = new int[LABELS];
        private final int[] pooled = new int[LABELS];
        private final int[] won = new int[LABELS];
        private final int[] left = new int[LABELS];
        private int seats;
        private Kind way = Kind.MOST;
        private int turnout;
        private int first = NONE;
        private int margin;
        private boolean isCounted;

        void empty() {
            for (int label = 0; label < LABELS; label++) {
                beans[label] = 0;
            }
            seats = 0;
            isCounted = false;
        }

        void becomeLike(Jar other) {
            for (int label = 0; label < LABELS; label++) {
                beans[label] = other.beans[label];
            }
            seats = other.seats;
            way = other.way;
            isCounted = false;
        }

        int move(int from, int to, int wanted) {
            int moved = Math.min(Math.max(wanted, 0), beans[from]);
            beans[from] -= moved;
            beans[to] += moved;
            isCounted = false;
            return moved;
        }

        void stir(int labels) {
            int coming = labels > 0 && labels <= LABELS ? beans[labels - 1] / 10 : 0;
            for (int label = 0; label < labels && label < LABELS; label++) {
                int going = beans[label] / 10;
                beans[label] += coming - going;
                coming = going;
            }
            isCounted = false;
        }

        void count(int[] leaders) {
            if (isCounted) {
                return;
            }
            isCounted = true;
            pool(leaders);
            findFirst();
            if (first == NONE) {
                return;
            }
            if (way == Kind.MOST) {
                won[first] = seats;
            } else if (way == Kind.DIVIDE) {
                divideSeats();
            } else {
                giveSeatsByQuota();
            }
        }

        int emptySeatsLeft() {
            int empty = seats;
            for (int label = 0; label < LABELS; label++) {
                empty -= won[label];
            }
            return empty;
        }

        /** How few beans of the first alliance would make the one of this leader the first. */
        int beansMissing(int leader) {
            if (first == NONE || leader == first) {
                return first == NONE ? NONE : 0;
            }
            // each bean that goes counts twice against the first one, and an equal one wins only
            // with the smaller number
            int missing = (pooled[first] - pooled[leader] + (first < leader ? 1 : 0) + 1) / 2;
            for (int other = 0; other < LABELS; other++) {
                if (other != first && other != leader) {
                    int ahead = pooled[other] - pooled[leader] + (other < leader ? 1 : 0);
                    missing = Math.max(missing, ahead);
                }
            }
            return missing <= pooled[first] ? missing : NONE;
        }

        private void pool(int[] leaders) {
            turnout = 0;
            for (int label = 0; label < LABELS; label++) {
                pooled[label] = 0;
                won[label] = 0;
            }
            for (int label = 0; label < LABELS; label++) {
                pooled[leaders[label]] += beans[label];
                turnout += beans[label];
            }
        }

        private void findFirst() {
            first = NONE;
            int most = 0;
            for (int leader = 0; leader < LABELS; leader++) {
                if (pooled[leader] > most) {
                    first = leader;
                    most = pooled[leader];
                }
            }
            int second = 0;
            for (int leader = 0; leader < LABELS; leader++) {
                if (leader != first && pooled[leader] > second) {
                    second = pooled[leader];
                }
            }
            margin = most - second;
        }

        private void divideSeats() {
            for (int seat = 0; seat < seats; seat++) {
                int best = first;
                for (int leader = 0; leader < LABELS; leader++) {
                    int here = pooled[leader] * (won[best] + 1);
                    int there = pooled[best] * (won[leader] + 1);
                    if (here > there || here == there && leader < best) {
                        best = leader;
                    }
                }
                won[best]++;
            }
        }

        private void giveSeatsByQuota() {
            int quota = seats < 0 ? 1 : turnout / (seats + 1) + 1;
            if (quota < 1) {
                return;
            }
            int open = seats;
            for (int leader = 0; leader < LABELS; leader++) {
                won[leader] = pooled[leader] / quota;
                left[leader] = pooled[leader] - won[leader] * quota;
                open -= won[leader];
            }
            for (; open > 0; open--) {
                int best = 0;
                for (int leader = 1; leader < LABELS; leader++) {
                    if (left[leader] > left[best]) {
                        best = leader;
                    }
                }
                if (left[best] > 0) {
                    won[best]++;
                    left[best] = 0;
                }
            }
        }
    }

    /** All that changes by hand and as days go by. */
    private static final class Cupboard {
        private final Jar[] jars = new Jar[JARS];
        private final int[] lidJars = new int[LIDS];
        private final int[] follows = new int[LABELS];
        private final int[] leaders = new int[LABELS];
        private int day;

        Cupboard() {
            for (int jar = 0; jar < JARS; jar++) {
                jars[jar] = new Jar();
            }
            for (int label = 0; label < LABELS; label++) {
                follows[label] = NONE;
                leaders[label] = label;
            }
        }

        /** Takes all out of the jars, for a book that is read anew into a start where no day went by. */
        void empty() {
            for (int jar = 0; jar < JARS; jar++) {
                jars[jar].empty();
            }
        }

        void becomeLike(Cupboard other) {
            day = other.day;
            for (int jar = 0; jar < JARS; jar++) {
                jars[jar].becomeLike(other.jars[jar]);
            }
            for (int lid = 0; lid < LIDS; lid++) {
                lidJars[lid] = other.lidJars[lid];
            }
            for (int label = 0; label < LABELS; label++) {
                follows[label] = other.follows[label];
                leaders[label] = other.leaders[label];
            }
        }

        Jar counted(int jar) {
            jars[jar].count(leaders);
            return jars[jar];
        }

        /** The seats of the label's alliance; jars that the book does not have are without seats. */
        int allSeats(int label) {
            int seats = 0;
            for (int jar = 0; jar < JARS; jar++) {
                jars[jar].count(leaders);
                seats += jars[jar].won[leaders[label]];
            }
            return seats;
        }

        boolean governs(int label) {
            int seats = 0;
            for (int jar = 0; jar < JARS; jar++) {
                seats += jars[jar].seats;
            }
            return allSeats(label) * 2 > seats;
        }

        boolean mayFollow(int label, int to) {
            int at = to;
            for (int n = 0; n < LABELS && at != NONE; n++) {
                if (at == label) {
                    return false;
                }
                at = follows[at];
            }
            return true;
        }

        void follow(int label, int to) {
            follows[label] = to;
            for (int each = 0; each < LABELS; each++) {
                int at = each;
                for (int n = 0; n < LABELS && follows[at] != NONE; n++) {
                    at = follows[at];
                }
                leaders[each] = at;
            }
            for (int jar = 0; jar < JARS; jar++) {
                jars[jar].isCounted = false;
            }
        }
    }

    /** Lets lids follow their rules. */
    private static final class Campaign {
        private final int[] stack = new int[TOKENS];
        private int height;
        private int acts;

        /** Every lid takes its turn, and the day ends; the number of acts done. */
        int spendDay(Book book, Cupboard cupboard) {
            acts = 0;
            for (int lid = 0; lid < book.lids; lid++) {
                int rule = ruleFor(book, cupboard, lid);
                if (rule != NONE) {
                    run(book, cupboard, lid, book.script.testEnds[rule], book.script.actEnds[rule]);
                }
            }
            cupboard.day++;
            return acts;
        }

        /** The rule that the lid would follow, numbered among all rules of the book. */
        int ruleFor(Book book, Cupboard cupboard, int lid) {
            for (int rule = book.lidRules[lid]; rule < book.lidRulesEnd[lid]; rule++) {
                run(book, cupboard, lid, book.script.tests[rule], book.script.testEnds[rule]);
                if (pop() != 0) {
                    return rule;
                }
            }
            return NONE;
        }

        private void run(Book book, Cupboard cupboard, int lid, int from, int to) {
            height = 0;
            for (int step = from; step < to; step++) {
                Kind kind = book.script.kindAt(step);
                int number = book.script.numberAt(step);
                switch (kind) {
                    case WIN:
                    case HOP:
                    case SHAKE:
                    case JOIN:
                    case LEAVE:
                        act(kind, number, book, cupboard, lid);
                        acts++;
                        break;
                    case NOT:
                        push(pop() == 0 ? 1 : 0);
                        break;
                    case NUMBER:
                    case DAY:
                    case BEANS:
                    case SEATS:
                    case MARGIN:
                    case TURNOUT:
                    case FIRST:
                    case ALLIED:
                        push(look(kind, number, cupboard, cupboard.lidJars[lid], book.lidLabels[lid]));
                        break;
                    default:
                        int right = pop();
                        push(reckon(kind, pop(), right));
                }
            }
        }

        private void act(Kind kind, int number, Book book, Cupboard cupboard, int lid) {
            int label = book.lidLabels[lid];
            Jar jar = cupboard.jars[cupboard.lidJars[lid]];
            switch (kind) {
                case WIN:
                    jar.move(number, label, pop());
                    break;
                case HOP:
                    cupboard.lidJars[lid] = number;
                    break;
                case SHAKE:
                    jar.stir(book.labels);
                    break;
                case JOIN:
                    if (cupboard.mayFollow(label, number)) {
                        cupboard.follow(label, number);
                    }
                    break;
                default:
                    cupboard.follow(label, NONE);
            }
        }

        private int look(Kind kind, int number, Cupboard cupboard, int jar, int label) {
            switch (kind) {
                case DAY:
                    return cupboard.day;
                case BEANS:
                    return cupboard.jars[jar].beans[number];
                case SEATS:
                    return cupboard.allSeats(number);
                case MARGIN:
                    return cupboard.counted(jar).margin;
                case TURNOUT:
                    return cupboard.counted(jar).turnout;
                case FIRST:
                    return cupboard.counted(jar).first == cupboard.leaders[number] ? 1 : 0;
                case ALLIED:
                    return cupboard.leaders[label] == cupboard.leaders[number] ? 1 : 0;
                default:
                    return number;
            }
        }

        private int reckon(Kind kind, int left, int right) {
            switch (kind) {
                case PLUS:
                    return left + right;
                case MINUS:
                    return left - right;
                case TIMES:
                    return left * right;
                case LESS:
                    return left < right ? 1 : 0;
                case GREATER:
                    return left > right ? 1 : 0;
                case EQUAL:
                    return left == right ? 1 : 0;
                case AND:
                    return left & right;
                default:
                    return left | right;
            }
        }

        private void push(int value) {
            if (height < stack.length) {
                stack[height] = value;
                height++;
            }
        }

        private int pop() {
            if (height < 1) {
                return 0;
            }
            height--;
            return stack[height];
        }
    }
}
