import java.util.ArrayList;
import java.util.Arrays;
import java.util.HashMap;
import java.util.HashSet;
import java.util.List;
import java.util.Map;
import java.util.Set;

/**
 * The document told a second time, as plainly as can be and without regard to speed: trees instead
 * of steps, every answer computed anew, every "how few" tried one by one. RandomTest compares.
 */
final class NaivePoll {
    static final Set<String> WORDS = new HashSet<>(Arrays.asList(("label jar seats by holds lid on for when win "
            + "from hop shake join leave not and or first allied day beans margin turnout most divide quota")
            .split(" ")));

    /** The tape is not a book from this token on. */
    private static final class NoBook extends RuntimeException {
        private static final long serialVersionUID = 1;
        final int at;

        NoBook(int at) {
            this.at = at;
        }
    }

    private static final class Token {
        String text;
        int at;
    }

    private interface Value {
        int in(NaivePoll poll, int lid);
    }

    private interface Act {
        void on(NaivePoll poll, int lid);
    }

    private static final class Rule {
        Value test;
        List<Act> acts = new ArrayList<>();
    }

    private static final class JarLine {
        int seats;
        String way;
        List<Integer> holds = new ArrayList<>();
    }

    private static final class LidLine {
        int jar;
        int label;
        List<Rule> rules = new ArrayList<>();
    }

    private static final class Book {
        List<String> labels = new ArrayList<>();
        List<String> jars = new ArrayList<>();
        List<String> lids = new ArrayList<>();
        List<JarLine> jarLines = new ArrayList<>();
        List<LidLine> lidLines = new ArrayList<>();
    }

    private final List<Byte> tape = new ArrayList<>();
    private int errorAt = -1;
    private Book book = new Book();
    private int day;
    private int[][] beans = new int[0][0];
    private int[] follows = new int[0];
    private int[] lies = new int[0];

    // reading
    private List<Token> tokens;
    private int next;

    int feed(int... numbers) {
        if (tape.size() + 20 > 1600) {
            throw new IllegalStateException();
        }
        for (int number : numbers) {
            for (int n = 3; n >= 0; n--) {
                tape.add((byte) (number >>> 8 * n));
            }
        }
        return tape.size();
    }

    int trim(int bytes) {
        if (bytes < 0 || bytes > tape.size()) {
            throw new IllegalArgumentException();
        }
        while (tape.size() > bytes) {
            tape.remove(tape.size() - 1);
        }
        return bytes;
    }

    int teach() {
        StringBuilder text = new StringBuilder();
        for (byte b : tape) {
            text.append((char) (b & 255));
        }
        tape.clear();
        Book read;
        try {
            read = parse(text.toString());
        } catch (NoBook e) {
            errorAt = e.at;
            return 1;
        }
        int error = otherError();
        if (error != 0) {
            return error;
        }
        errorAt = -1;
        book = read;
        day = 0;
        beans = new int[book.jars.size()][book.labels.size()];
        for (int jar = 0; jar < beans.length; jar++) {
            for (int label = 0; label < book.jarLines.get(jar).holds.size(); label++) {
                beans[jar][label] = book.jarLines.get(jar).holds.get(label);
            }
        }
        follows = new int[book.labels.size()];
        Arrays.fill(follows, -1);
        lies = new int[book.lids.size()];
        for (int lid = 0; lid < lies.length; lid++) {
            lies[lid] = book.lidLines.get(lid).jar;
        }
        return 0;
    }

    int errorAt() {
        return errorAt;
    }

    // ---- grammar: a parser of names only; numbers of names that are unknown are -1

    private Book parse(String text) {
        tokens = new ArrayList<>();
        int at = 0;
        while (true) {
            while (at < text.length() && (text.charAt(at) == 32 || text.charAt(at) == 10)) {
                at++;
            }
            Token token = new Token();
            token.at = at;
            if (at == text.length()) {
                tokens.add(token);
                break;
            }
            int end = at + 1;
            String all = text.substring(at, end);
            if (all.matches("[a-z]") || all.matches("[0-9]")) {
                String more = all.matches("[a-z]") ? "[a-z]+" : "[0-9]+";
                while (end < text.length() && text.substring(at, end + 1).matches(more)) {
                    end++;
                }
            }
            token.text = text.substring(at, end);
            boolean good = token.text.matches("[a-z]{1,8}|[0-9]{1,4}|[\\[\\]();,<>=+*-]");
            if (!good || tokens.size() == 400) {
                token.text = "?";
            }
            tokens.add(token);
            at = end;
        }
        next = 0;
        Book into = new Book();
        while (peek() != null) {
            line(into);
            need(";");
        }
        return into;
    }

    private String peek() {
        return tokens.get(next).text;
    }

    private boolean is(String text) {
        return text.equals(peek());
    }

    private NoBook no() {
        return new NoBook(tokens.get(next).at);
    }

    private void need(String text) {
        if (!is(text)) {
            throw no();
        }
        next++;
    }

    private boolean may(String text) {
        if (is(text)) {
            next++;
            return true;
        }
        return false;
    }

    private String name() {
        if (peek() == null || !peek().matches("[a-z]+") || WORDS.contains(peek())) {
            throw no();
        }
        return tokens.get(next++).text;
    }

    private int number() {
        if (peek() == null || !peek().matches("[0-9]+")) {
            throw no();
        }
        return Integer.parseInt(tokens.get(next++).text);
    }

    private void line(Book into) {
        if (may("label")) {
            into.labels.add(name());
        } else if (may("jar")) {
            into.jars.add(name());
            JarLine jar = new JarLine();
            need("seats");
            jar.seats = number();
            need("by");
            if (!is("most") && !is("divide") && !is("quota")) {
                throw no();
            }
            jar.way = tokens.get(next++).text;
            need("holds");
            do {
                jar.holds.add(number());
            } while (may(","));
            into.jarLines.add(jar);
        } else if (may("lid")) {
            into.lids.add(name());
            LidLine lid = new LidLine();
            need("on");
            lid.jar = into.jars.indexOf(name());
            need("for");
            lid.label = into.labels.indexOf(name());
            while (may("when")) {
                lid.rules.add(rule(into));
            }
            into.lidLines.add(lid);
        } else {
            throw no();
        }
    }

    private Rule rule(Book into) {
        Rule rule = new Rule();
        rule.test = test(into, 0);
        need("(");
        while (!may(")")) {
            rule.acts.add(act(into));
        }
        return rule;
    }

    private Act act(Book into) {
        if (may("win")) {
            Value value = sum(into, 0);
            need("from");
            int from = into.labels.indexOf(name());
            return (poll, lid) -> {
                int[] jar = poll.beans[poll.lies[lid]];
                int most = jar[from];
                int won = value.in(poll, lid);
                if (won < 0) {
                    won = 0;
                }
                if (won > most) {
                    won = most;
                }
                jar[from] -= won;
                jar[poll.labelOfLid(lid)] += won;
            };
        }
        if (may("hop")) {
            int jar = into.jars.indexOf(name());
            return (poll, lid) -> poll.lies[lid] = jar;
        }
        if (may("shake")) {
            return (poll, lid) -> poll.shake(poll.lies[lid]);
        }
        if (may("join")) {
            int to = into.labels.indexOf(name());
            return (poll, lid) -> {
                try {
                    poll.join(poll.labelOfLid(lid), to);
                } catch (IllegalStateException e) {
                    // then nothing happens
                }
            };
        }
        if (may("leave")) {
            return (poll, lid) -> poll.follows[poll.labelOfLid(lid)] = -1;
        }
        throw no();
    }

    private Value test(Book into, int brackets) {
        Value all = both(into, brackets);
        while (may("or")) {
            Value one = all;
            Value other = both(into, brackets);
            all = (poll, lid) -> one.in(poll, lid) == 1 || other.in(poll, lid) == 1 ? 1 : 0;
        }
        return all;
    }

    private Value both(Book into, int brackets) {
        Value all = single(into, brackets);
        while (may("and")) {
            Value one = all;
            Value other = single(into, brackets);
            all = (poll, lid) -> one.in(poll, lid) == 1 && other.in(poll, lid) == 1 ? 1 : 0;
        }
        return all;
    }

    private Value single(Book into, int brackets) {
        if (may("not")) {
            Value turned = single(into, brackets);
            return (poll, lid) -> 1 - turned.in(poll, lid);
        }
        if (is("[")) {
            if (brackets == 6) {
                throw no();
            }
            need("[");
            Value inner = test(into, brackets + 1);
            need("]");
            return inner;
        }
        if (may("first")) {
            int label = into.labels.indexOf(name());
            return (poll, lid) -> poll.firstIn(poll.lies[lid]) == poll.leaderOf(label) ? 1 : 0;
        }
        if (may("allied")) {
            int label = into.labels.indexOf(name());
            return (poll, lid) -> poll.areAllied(label, poll.labelOfLid(lid)) ? 1 : 0;
        }
        Value left = sum(into, brackets);
        String sign = peek();
        if (!is("<") && !is(">") && !is("=")) {
            throw no();
        }
        next++;
        Value right = sum(into, brackets);
        return (poll, lid) -> {
            int order = Integer.compare(left.in(poll, lid), right.in(poll, lid));
            return (sign.equals("<") ? order < 0 : sign.equals(">") ? order > 0 : order == 0) ? 1 : 0;
        };
    }

    private Value sum(Book into, int brackets) {
        Value all = product(into, brackets);
        while (is("+") || is("-")) {
            int sign = is("+") ? 1 : -1;
            next++;
            Value one = all;
            Value other = product(into, brackets);
            all = (poll, lid) -> one.in(poll, lid) + sign * other.in(poll, lid);
        }
        return all;
    }

    private Value product(Book into, int brackets) {
        Value all = atom(into, brackets);
        while (may("*")) {
            Value one = all;
            Value other = atom(into, brackets);
            all = (poll, lid) -> one.in(poll, lid) * other.in(poll, lid);
        }
        return all;
    }

    private Value atom(Book into, int brackets) {
        if (is("(")) {
            if (brackets == 6) {
                throw no();
            }
            need("(");
            Value inner = sum(into, brackets + 1);
            need(")");
            return inner;
        }
        if (may("day")) {
            return (poll, lid) -> poll.day;
        }
        if (may("beans")) {
            int label = into.labels.indexOf(name());
            return (poll, lid) -> poll.beans[poll.lies[lid]][label];
        }
        if (may("seats")) {
            int label = into.labels.indexOf(name());
            return (poll, lid) -> poll.seatsInAll(label);
        }
        if (may("margin")) {
            return (poll, lid) -> poll.marginIn(poll.lies[lid]);
        }
        if (may("turnout")) {
            return (poll, lid) -> poll.turnout(poll.lies[lid]);
        }
        int number = number();
        return (poll, lid) -> number;
    }

    // ---- errors 2 to 5: the tokens are known to be a book; what each one is, the one ahead tells

    private int otherError() {
        Map<String, String> owners = new HashMap<>();
        Map<String, Integer> counts = new HashMap<>(Map.of("label", 0, "jar", 0, "lid", 0, "when", 0, "act", 0));
        int holds = -1;
        String before = "";
        for (Token token : tokens) {
            if (token.text == null) {
                break;
            }
            errorAt = token.at;
            String text = token.text;
            if (text.equals("when") && counts.merge("when", 1, Integer::sum) > 24) {
                return 4;
            }
            if (text.matches("win|hop|shake|join|leave") && counts.merge("act", 1, Integer::sum) > 60) {
                return 4;
            }
            if (before.matches("label|jar|lid")) {
                if (owners.containsKey(text)) {
                    return 2;
                }
                if (counts.merge(before, 1, Integer::sum) > (before.equals("jar") ? 8 : 6)) {
                    return 4;
                }
                owners.put(text, before);
            }
            if (before.matches("on|hop") && !"jar".equals(owners.get(text))) {
                return 3;
            }
            boolean number = text.matches("[0-9]+");
            if (before.matches("for|from|join|first|allied|beans|seats") && !number
                    && !"label".equals(owners.get(text))) {
                return 3;
            }
            if (before.equals("seats") && number && !text.matches("0*[1-9]")) {
                return 5;
            }
            if (text.equals("holds")) {
                holds = 0;
            } else if (text.equals(";")) {
                holds = -1;
            } else if (holds >= 0 && number) {
                holds++;
                if (holds > counts.get("label") || Integer.parseInt(text) > 200) {
                    return 5;
                }
            }
            before = text;
        }
        return 0;
    }

    // ---- the cupboard

    int labels() {
        return book.labels.size();
    }

    int jars() {
        return book.jars.size();
    }

    int lids() {
        return book.lids.size();
    }

    int days() {
        return day;
    }

    int alliances() {
        Set<Integer> leaders = new HashSet<>();
        for (int label = 0; label < labels(); label++) {
            leaders.add(leaderOf(label));
        }
        return leaders.size();
    }

    private void need(boolean good) {
        if (!good) {
            throw new IndexOutOfBoundsException();
        }
    }

    private void needJar(int jar) {
        need(jar >= 0 && jar < jars());
    }

    private void needLabel(int label) {
        need(label >= 0 && label < labels());
    }

    private void needLid(int lid) {
        need(lid >= 0 && lid < lids());
    }

    int beansIn(int jar, int label) {
        needJar(jar);
        needLabel(label);
        return beans[jar][label];
    }

    int beansOf(int label) {
        needLabel(label);
        int sum = 0;
        for (int[] jar : beans) {
            sum += jar[label];
        }
        return sum;
    }

    int turnout(int jar) {
        needJar(jar);
        return Arrays.stream(beans[jar]).sum();
    }

    int seatsOf(int jar) {
        needJar(jar);
        return book.jarLines.get(jar).seats;
    }

    int leaderOf(int label) {
        needLabel(label);
        return follows[label] < 0 ? label : leaderOf(follows[label]);
    }

    boolean areAllied(int one, int other) {
        needLabel(one);
        needLabel(other);
        return leaderOf(one) == leaderOf(other);
    }

    // ---- who wins

    private int[] pooled(int jar) {
        int[] sums = new int[labels()];
        for (int label = 0; label < labels(); label++) {
            sums[leaderOf(label)] += beans[jar][label];
        }
        return sums;
    }

    private static int firstOf(int[] sums) {
        int best = -1;
        for (int n = sums.length - 1; n >= 0; n--) {
            if (sums[n] > 0 && (best < 0 || sums[n] >= sums[best])) {
                best = n;
            }
        }
        return best;
    }

    int firstIn(int jar) {
        needJar(jar);
        return firstOf(pooled(jar));
    }

    int marginIn(int jar) {
        needJar(jar);
        int[] sums = pooled(jar);
        Arrays.sort(sums);
        if (sums.length == 0) {
            return 0;
        }
        return sums[sums.length - 1] - (sums.length > 1 ? sums[sums.length - 2] : 0);
    }

    int allianceBeans(int jar, int label) {
        needJar(jar);
        needLabel(label);
        return pooled(jar)[leaderOf(label)];
    }

    private int[] won(int jar) {
        int seats = seatsOf(jar);
        int[] sums = pooled(jar);
        int[] won = new int[labels()];
        if (turnout(jar) == 0) {
            return won;
        }
        switch (book.jarLines.get(jar).way) {
            case "most" -> won[firstOf(sums)] = seats;
            case "divide" -> {
                // the seats go to the largest of all shares beans / 1, beans / 2 ..
                List<int[]> shares = new ArrayList<>();
                for (int n = 0; n < sums.length; n++) {
                    for (int seat = 1; seat <= seats && sums[n] > 0; seat++) {
                        shares.add(new int[] {sums[n], seat, n});
                    }
                }
                shares.sort((a, b) -> a[0] * b[1] != b[0] * a[1] ? b[0] * a[1] - a[0] * b[1] : a[2] - b[2]);
                for (int[] share : shares.subList(0, seats)) {
                    won[share[2]]++;
                }
            }
            default -> {
                int quota = turnout(jar) / (seats + 1) + 1;
                List<int[]> rests = new ArrayList<>();
                for (int n = 0; n < sums.length; n++) {
                    won[n] = sums[n] / quota;
                    if (sums[n] % quota > 0) {
                        rests.add(new int[] {sums[n] % quota, n});
                    }
                }
                rests.sort((a, b) -> a[0] != b[0] ? b[0] - a[0] : a[1] - b[1]);
                int open = seats - Arrays.stream(won).sum();
                for (int n = 0; n < open && n < rests.size(); n++) {
                    won[rests.get(n)[1]]++;
                }
            }
        }
        return won;
    }

    int seatsWon(int jar, int label) {
        needJar(jar);
        needLabel(label);
        return won(jar)[leaderOf(label)];
    }

    int emptySeats(int jar) {
        needJar(jar);
        return seatsOf(jar) - Arrays.stream(won(jar)).sum();
    }

    int seatsInAll(int label) {
        needLabel(label);
        int sum = 0;
        for (int jar = 0; jar < jars(); jar++) {
            sum += seatsWon(jar, label);
        }
        return sum;
    }

    int leading() {
        int best = -1;
        for (int label = labels() - 1; label >= 0; label--) {
            if (leaderOf(label) == label && (best < 0 || seatsInAll(label) >= seatsInAll(best))) {
                best = label;
            }
        }
        return best;
    }

    boolean hasMajority(int label) {
        needLabel(label);
        double all = 0;
        for (int jar = 0; jar < jars(); jar++) {
            all += seatsOf(jar);
        }
        return seatsInAll(label) > all / 2;
    }

    // ---- lids

    int jarOfLid(int lid) {
        needLid(lid);
        return lies[lid];
    }

    int labelOfLid(int lid) {
        needLid(lid);
        return book.lidLines.get(lid).label;
    }

    int ruleOfLid(int lid) {
        needLid(lid);
        List<Rule> rules = book.lidLines.get(lid).rules;
        for (int rule = 0; rule < rules.size(); rule++) {
            if (rules.get(rule).test.in(this, lid) == 1) {
                return rule;
            }
        }
        return -1;
    }

    // ---- by hand

    int pour(int jar, int from, int to, int wanted) {
        needJar(jar);
        needLabel(from);
        needLabel(to);
        if (from == to || wanted < 1 || wanted > 200) {
            throw new IllegalArgumentException();
        }
        int poured = Math.min(wanted, beans[jar][from]);
        beans[jar][from] -= poured;
        beans[jar][to] += poured;
        return poured;
    }

    int shake(int jar) {
        needJar(jar);
        int[] before = beans[jar].clone();
        for (int label = 0; label < before.length; label++) {
            beans[jar][label] -= before[label] / 10;
            beans[jar][(label + 1) % before.length] += before[label] / 10;
        }
        return firstIn(jar);
    }

    int putLid(int lid, int jar) {
        needLid(lid);
        needJar(jar);
        int before = lies[lid];
        lies[lid] = jar;
        return before;
    }

    int join(int label, int to) {
        needLabel(label);
        needLabel(to);
        for (int at = to; at >= 0; at = follows[at]) {
            if (at == label) {
                throw new IllegalStateException();
            }
        }
        follows[label] = to;
        return leaderOf(label);
    }

    int leave(int label) {
        needLabel(label);
        if (follows[label] < 0) {
            throw new IllegalStateException();
        }
        int before = follows[label];
        follows[label] = -1;
        return before;
    }

    int pass(int days) {
        if (days < 1 || days > 60) {
            throw new IllegalArgumentException();
        }
        int acts = 0;
        for (int n = 0; n < days; n++) {
            for (int lid = 0; lid < lids(); lid++) {
                int rule = ruleOfLid(lid);
                if (rule >= 0) {
                    for (Act act : book.lidLines.get(lid).rules.get(rule).acts) {
                        act.on(this, lid);
                        acts++;
                    }
                }
            }
            day++;
        }
        return acts;
    }

    // ---- what would be

    private NaivePoll copy() {
        NaivePoll copy = new NaivePoll();
        copy.book = book;
        copy.day = day;
        copy.follows = follows.clone();
        copy.lies = lies.clone();
        copy.beans = new int[beans.length][];
        for (int jar = 0; jar < beans.length; jar++) {
            copy.beans[jar] = beans[jar].clone();
        }
        return copy;
    }

    int seatsAfter(int label, int days) {
        needLabel(label);
        NaivePoll copy = copy();
        copy.pass(days);
        return copy.seatsInAll(label);
    }

    int daysUntilMajority(int label) {
        needLabel(label);
        NaivePoll copy = copy();
        for (int days = 0; days <= 100; days++) {
            if (copy.hasMajority(label)) {
                return days;
            }
            copy.pass(1);
        }
        return -1;
    }

    int beansToWin(int jar, int label) {
        needJar(jar);
        needLabel(label);
        int[] sums = pooled(jar);
        int first = firstOf(sums);
        int own = leaderOf(label);
        if (first < 0) {
            return -1;
        }
        for (int few = 0; few <= sums[first]; few++) {
            int[] tried = sums.clone();
            tried[first] -= few;
            tried[own] += few;
            if (firstOf(tried) == own) {
                return few;
            }
        }
        return -1;
    }

    int bestJarFor(int label) {
        needLabel(label);
        int best = -1;
        for (int jar = jars() - 1; jar >= 0; jar--) {
            int few = beansToWin(jar, label);
            if (few >= 1 && (best < 0 || few <= beansToWin(best, label))) {
                best = jar;
            }
        }
        return best;
    }

    int firstShaken(int jar) {
        needJar(jar);
        return copy().shake(jar);
    }

    double meanMargin() {
        double sum = 0;
        for (int jar = 0; jar < jars(); jar++) {
            sum += marginIn(jar);
        }
        return jars() == 0 ? 0 : sum / jars();
    }

    long digest() {
        List<Integer> numbers = new ArrayList<>(List.of(labels(), jars(), lids(), days(), alliances(), leading()));
        for (int label = 0; label < labels(); label++) {
            numbers.addAll(List.of(leaderOf(label), beansOf(label), seatsInAll(label), hasMajority(label) ? 1 : 0,
                    bestJarFor(label)));
        }
        for (int jar = 0; jar < jars(); jar++) {
            numbers.addAll(List.of(turnout(jar), seatsOf(jar), firstIn(jar), marginIn(jar), emptySeats(jar),
                    firstShaken(jar)));
            for (int label = 0; label < labels(); label++) {
                numbers.addAll(List.of(beansIn(jar, label), seatsWon(jar, label), beansToWin(jar, label)));
            }
        }
        for (int lid = 0; lid < lids(); lid++) {
            numbers.addAll(List.of(jarOfLid(lid), labelOfLid(lid), ruleOfLid(lid)));
        }
        long d = 1949;
        for (int x : numbers) {
            d = d * 31 + x;
        }
        return d;
    }
}
