import java.util.ArrayList;
import java.util.List;
import java.util.Random;

/** Makes up books, most of them without error, some just beyond a limit or with a token spoilt. */
final class RandomBook {
    private static final String[] NAMES = {"a", "b", "c", "d", "e", "f", "g", "jam", "tea", "salt", "pepper",
        "lou", "max", "xavieraa", "q", "lab", "labels", "jarr", "onn", "x", "y", "z", "ab", "ba", "zzzzzzzz"};
    private static final String[] TOKENS = ("label jar seats by holds lid on for when win from hop shake join leave "
        + "not and or first allied day beans margin turnout most divide quota [ ] ( ) ; , < > = + - * a tea lou "
        + "0 1 9 10 200 201 9999 12345 abcdefghi A ? ").split(" ");

    private final Random random;
    private final List<String> tokens = new ArrayList<>();
    private final List<String> labels = new ArrayList<>();
    private final List<String> jars = new ArrayList<>();
    private int names;

    private RandomBook(Random random) {
        this.random = random;
    }

    static byte[] make(Random random) {
        RandomBook book = new RandomBook(random);
        book.write();
        if (random.nextInt(3) == 0) {
            book.spoil();
        }
        return book.bytes();
    }

    private boolean oneIn(int n) {
        return random.nextInt(n) == 0;
    }

    private String pick(List<String> of, String otherwise) {
        return of.isEmpty() || oneIn(200) ? otherwise : of.get(random.nextInt(of.size()));
    }

    private void add(String... more) {
        tokens.addAll(List.of(more));
    }

    private String newName() {
        return oneIn(150) ? NAMES[random.nextInt(NAMES.length)] : NAMES[names++ % NAMES.length];
    }

    private void write() {
        int most = oneIn(10) ? 8 : 6;
        int labelCount = oneIn(20) ? 0 : 1 + random.nextInt(most);
        int jarCount = oneIn(20) ? 0 : 1 + random.nextInt(oneIn(15) ? 10 : 5);
        int lidCount = jarCount == 0 || labelCount == 0 ? 0 : random.nextInt(oneIn(15) ? 9 : 5);
        int late = oneIn(4) ? random.nextInt(labelCount + 1) : 0;
        for (int n = 0; n < labelCount - late; n++) {
            label();
        }
        for (int n = 0; n < jarCount; n++) {
            jar();
        }
        for (int n = 0; n < late; n++) {
            label();
        }
        int budget = 400 + (oneIn(20) ? 40 : -10);
        int each = lidCount == 0 ? 0 : (budget - tokens.size()) / lidCount;
        for (int n = 0; n < lidCount; n++) {
            lid(tokens.size() + (oneIn(3) ? each : each / 3));
        }
    }

    private void label() {
        String name = newName();
        add("label", name, ";");
        labels.add(name);
    }

    private void jar() {
        String name = newName();
        add("jar", name, "seats", oneIn(80) ? "0" : oneIn(80) ? "10" : "" + (1 + random.nextInt(9)), "by");
        add(List.of("most", "divide", "quota").get(random.nextInt(3)), "holds", beans());
        int more = oneIn(3) ? random.nextInt(Math.max(1, labels.size())) : labels.size() - 1;
        for (int n = 0; n < more + (oneIn(60) ? 1 : 0); n++) {
            add(",", beans());
        }
        add(";");
        jars.add(name);
    }

    private String beans() {
        switch (random.nextInt(6)) {
            case 0:
                return "0";
            case 1:
                return "10";
            case 2:
                return "" + random.nextInt(4);
            case 3:
                return oneIn(80) ? "201" : "0200";
            default:
                return "" + random.nextInt(201);
        }
    }

    private void lid(int until) {
        add("lid", newName(), "on", pick(jars, "a"), "for", pick(labels, "jam"));
        int rules = oneIn(12) ? 30 : random.nextInt(7);
        for (int n = 0; n < rules && tokens.size() < until; n++) {
            add("when");
            test(0);
            add("(");
            int acts = oneIn(12) ? 20 : random.nextInt(5);
            for (int m = 0; m < acts && tokens.size() < until; m++) {
                act();
            }
            add(")");
        }
        add(";");
    }

    private void act() {
        switch (random.nextInt(7)) {
            case 0:
                add("hop", pick(jars, "a"));
                break;
            case 1:
                add("shake");
                break;
            case 2:
                add("join", pick(labels, "jam"));
                break;
            case 3:
                add("leave");
                break;
            default:
                add("win");
                sum(0);
                add("from", pick(labels, "jam"));
        }
    }

    private boolean deeper(int brackets, int n) {
        return oneIn(n) && (brackets < 6 || oneIn(30)) || brackets > 0 && brackets < 6 && oneIn(2);
    }

    private void test(int brackets) {
        both(brackets);
        while (oneIn(4)) {
            add("or");
            both(brackets);
        }
    }

    private void both(int brackets) {
        single(brackets);
        while (oneIn(4)) {
            add("and");
            single(brackets);
        }
    }

    private void single(int brackets) {
        while (oneIn(4)) {
            add("not");
        }
        if (deeper(brackets, 10)) {
            add("[");
            test(brackets + 1);
            add("]");
        } else if (oneIn(3)) {
            add(oneIn(2) ? "first" : "allied", pick(labels, "jam"));
        } else {
            sum(brackets);
            add(List.of("<", ">", "=").get(random.nextInt(3)));
            sum(brackets);
        }
    }

    private void sum(int brackets) {
        product(brackets);
        while (oneIn(4)) {
            add(oneIn(2) ? "+" : "-");
            product(brackets);
        }
    }

    private void product(int brackets) {
        atom(brackets);
        while (oneIn(6)) {
            add("*");
            atom(brackets);
        }
    }

    private void atom(int brackets) {
        if (deeper(brackets, 10)) {
            add("(");
            sum(brackets + 1);
            add(")");
            return;
        }
        switch (random.nextInt(8)) {
            case 0:
                add("day");
                break;
            case 1:
                add("beans", pick(labels, "jam"));
                break;
            case 2:
                add("seats", pick(labels, "jam"));
                break;
            case 3:
                add("margin");
                break;
            case 4:
                add("turnout");
                break;
            case 5:
                add(oneIn(5) ? "9999" : "" + random.nextInt(300));
                break;
            default:
                add("" + random.nextInt(9));
        }
    }

    private void spoil() {
        int at = random.nextInt(tokens.size() + 1);
        String other = TOKENS[random.nextInt(TOKENS.length)];
        switch (random.nextInt(5)) {
            case 0:
                tokens.add(at, other);
                break;
            case 1:
                tokens.subList(at, tokens.size()).clear();
                break;
            case 2:
                tokens.add(at, "" + (char) random.nextInt(256));
                break;
            default:
                if (at < tokens.size()) {
                    if (oneIn(3)) {
                        tokens.remove(at);
                    } else {
                        tokens.set(at, other);
                    }
                }
        }
    }

    private byte[] bytes() {
        StringBuilder text = new StringBuilder();
        for (String token : tokens) {
            char last = text.length() == 0 ? ' ' : text.charAt(text.length() - 1);
            char first = token.isEmpty() ? ' ' : token.charAt(0);
            boolean glued = Character.isLowerCase(last) && Character.isLowerCase(first)
                    || Character.isDigit(last) && Character.isDigit(first);
            if (glued || oneIn(8)) {
                text.append(oneIn(5) ? "\n" : " ");
            }
            text.append(token);
        }
        while (oneIn(3)) {
            text.append(' ');
        }
        byte[] bytes = new byte[Math.min(1580, text.length())];
        for (int n = 0; n < bytes.length; n++) {
            bytes[n] = (byte) text.charAt(n);
        }
        return bytes;
    }
}
