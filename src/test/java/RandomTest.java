import java.lang.reflect.InvocationTargetException;
import java.lang.reflect.Method;
import java.util.Random;

/** Random books and calls, always the same ones: the program and NaivePoll must answer alike. */
final class RandomTest {
    /** Each method of the face but feed, and what its arguments are. */
    private static final String[] CALLS = {"trim tape", "teach", "errorAt", "labels", "jars", "lids", "days",
        "alliances", "beansIn jar label", "beansOf label", "turnout jar", "seatsOf jar", "leaderOf label",
        "areAllied label label", "firstIn jar", "marginIn jar", "allianceBeans jar label", "seatsWon jar label",
        "emptySeats jar", "seatsInAll label", "leading", "hasMajority label", "jarOfLid lid", "labelOfLid lid",
        "ruleOfLid lid", "pour jar label label beans", "shake jar", "putLid lid jar", "join label label",
        "leave label", "pass days", "seatsAfter label days", "daysUntilMajority label", "beansToWin jar label",
        "bestJarFor label", "firstShaken jar", "meanMargin", "digest"};
    private static final int RUNS = 2500;

    private final Random random;
    private final CupboardPoll poll = new CupboardPoll();
    private final NaivePoll naive = new NaivePoll();
    private final StringBuilder told = new StringBuilder();

    private RandomTest(long seed) {
        random = new Random(seed);
        told.append("seed ").append(seed).append(':');
    }

    public static void main(String[] args) throws Exception {
        int[] errors = new int[6];
        for (int run = 0; run < RUNS; run++) {
            new RandomTest(run).run(errors);
        }
        for (int error = 0; error < errors.length; error++) {
            if (errors[error] < 10) {
                Check.same("books made up with error " + error, errors[error], 10);
            }
        }
        Check.finish();
    }

    private void run(int[] errors) throws Exception {
        for (int book = 0; book < 2; book++) {
            byte[] bytes = RandomBook.make(random);
            write(bytes);
            errors[poll.teach()]++;
            naive.teach();
            same("errorAt");
            for (int n = 0; n < 80; n++) {
                String call = CALLS[random.nextInt(CALLS.length)];
                if (!call.startsWith("t") || random.nextInt(10) == 0) {
                    same(call);
                }
                if (random.nextInt(4) == 0) {
                    same("pass days");
                }
            }
            same("digest");
        }
    }

    private void write(byte[] bytes) {
        naive.trim(poll.trim(0));
        for (int from = 0; from < bytes.length; from += 20) {
            int[] numbers = new int[5];
            for (int n = 0; n < 20; n++) {
                numbers[n / 4] = numbers[n / 4] << 8 | (from + n < bytes.length ? bytes[from + n] & 255 : 32);
            }
            Check.same("feed", poll.feed(numbers[0], numbers[1], numbers[2], numbers[3], numbers[4]),
                    naive.feed(numbers));
        }
        poll.trim(bytes.length);
        naive.trim(bytes.length);
        told.append(" \"").append(new String(bytes, java.nio.charset.StandardCharsets.ISO_8859_1)).append('"');
    }

    private void same(String call) throws Exception {
        String[] parts = call.split(" ");
        Object[] arguments = new Object[parts.length - 1];
        Class<?>[] types = new Class<?>[arguments.length];
        told.append(' ').append(parts[0]).append('(');
        for (int n = 0; n < arguments.length; n++) {
            arguments[n] = argument(parts[n + 1]);
            types[n] = int.class;
            told.append(n == 0 ? "" : ", ").append(arguments[n]);
        }
        told.append(')');
        String due = answer(NaivePoll.class.getDeclaredMethod(parts[0], types), naive, arguments);
        String got = answer(CupboardPoll.class.getMethod(parts[0], types), poll, arguments);
        if (!got.equals(due)) {
            Check.sameText(told.toString(), got, due);
            Check.finish();
        }
        Check.sameText(parts[0], got, due);
    }

    private int argument(String kind) {
        if (random.nextInt(60) == 0) {
            return random.nextBoolean() ? Integer.MIN_VALUE : Integer.MAX_VALUE;
        }
        switch (kind) {
            case "jar":
                return below(naive.jars());
            case "label":
                return below(naive.labels());
            case "lid":
                return below(naive.lids());
            case "days":
                return random.nextInt(20) == 0 ? random.nextInt(4) * 20 : 1 + random.nextInt(5);
            case "beans":
                return random.nextInt(10) == 0 ? 199 + random.nextInt(3) : random.nextInt(40);
            default:
                return random.nextInt(30) - 2;
        }
    }

    private int below(int count) {
        return random.nextInt(15) == 0 ? random.nextInt(count + 2) - 1 : random.nextInt(Math.max(1, count));
    }

    private static String answer(Method method, Object of, Object[] arguments) throws Exception {
        method.setAccessible(true);
        try {
            return String.valueOf(method.invoke(of, arguments));
        } catch (InvocationTargetException e) {
            return "throws " + e.getCause().getClass().getName();
        }
    }
}
