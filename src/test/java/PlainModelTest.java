import java.lang.reflect.Method;
import java.util.Arrays;
import java.util.Map;
import java.util.Random;
import java.util.TreeMap;

/** Runs of drawn calls, each answer compared with the one of PlainModel; all draws are by told seeds. */
public final class PlainModelTest {
    private static final int RUNS = Integer.getInteger("runs", 300);
    private static final int CALLS = 512;
    /** Signs are said and fingers are put far more often than the rest, or little would ever happen. */
    private static final String[] NAMES = {
        "gap", "set", "fault", "judge", "done", "hears", "behind", "clashed", "interval", "heard", "stopped",
        "friends", "changes", "shifts", "seen", "forget", "fit", "ask", "borrow", "borrow", "borrow", "teas", "feet",
        "hooks", "turns", "slips", "calm", "year", "image", "restore", "told", "wipe", "say"};
    private static final Map<String, Method> METHODS = new TreeMap<>();

    private StreetString x;
    private PlainModel model;
    private Random random;
    private int run;
    private int calls;

    public static void main(String[] args) throws Exception {
        for (Method m : StreetString.class.getDeclaredMethods()) {
            if (java.lang.reflect.Modifier.isPublic(m.getModifiers())) {
                METHODS.put(m.getName(), m);
            }
        }
        Map<String, Integer> answered = new TreeMap<>();
        for (int run = 0; run < RUNS; run++) {
            new PlainModelTest().oneRun(run, answered);
        }
        for (String name : METHODS.keySet()) {
            Check.dueTrue(name + " answered more than refusals", answered.getOrDefault(name, 0) > 20);
        }
        Check.end();
    }

    private void oneRun(int number, Map<String, Integer> answered) throws Exception {
        run = number;
        random = new Random(1000L + number);
        x = new StreetString();
        model = new PlainModel();
        calls = 0;
        if (random.nextInt(4) != 0) {
            both("windows", new int[] {2 + random.nextInt(9)}, answered);
        }
        while (calls < CALLS) {
            int kind = random.nextInt(20);
            if (kind == 0) {
                tell(evening(), answered);
                both("done", new int[0], answered);
            } else if (kind == 1) {
                tell(evening(), answered);
            } else if (kind == 2) {
                tell(tune(), answered);
            } else if (kind == 3 && random.nextInt(8) == 0) {
                both("windows", new int[] {random.nextInt(13)}, answered);
            } else {
                String name = NAMES[random.nextInt(NAMES.length)];
                both(name, drawn(name), answered);
            }
        }
    }

    private void both(String name, int[] args, Map<String, Integer> answered) throws Exception {
        if (calls >= CALLS) {
            return;
        }
        calls++;
        Object[] boxed = Arrays.stream(args).boxed().toArray();
        long got = ((Number) METHODS.get(name).invoke(x, boxed)).longValue();
        long want = model.call(name, args);
        Check.due("run " + run + ", call " + calls + ": " + name + Arrays.toString(args), got, want);
        if (want >= 0) {
            answered.merge(name, 1, Integer::sum);
        }
    }

    private void tell(String text, Map<String, Integer> answered) throws Exception {
        both("wipe", new int[0], answered);
        for (char sign : text.toCharArray()) {
            both("say", new int[] {sign}, answered);
        }
    }

    private String evening() {
        StringBuilder text = new StringBuilder();
        int windows = (int) model.call("told", new int[] {1});
        int length = random.nextInt(12);
        for (int i = 0; i < length; i++) {
            int kind = random.nextInt(40);
            char sign = kind < 20 ? (char) ('a' + random.nextInt(windows)) : kind < 29 ? '.' : kind < 35 ? '+' : '-';
            text.append(kind == 39 && random.nextInt(3) == 0 ? (char) (33 + random.nextInt(94)) : sign);
        }
        return text.toString();
    }

    /** Lengths that some window hears by some fingers are drawn more often than any. */
    private String tune() {
        StringBuilder text = new StringBuilder();
        int length = random.nextInt(6) == 0 ? random.nextInt(31) : random.nextInt(5);
        int even = random.nextInt(3);
        for (int i = 0; i < length; i++) {
            int tone = 1 + random.nextInt(20);
            if (even > 0) {
                tone = 2 * (1 + random.nextInt(even == 1 ? 10 : 4));
            }
            text.append((char) ('0' + tone / 10)).append((char) ('0' + tone % 10));
        }
        if (random.nextInt(12) == 0) {
            text.append((char) ('0' + random.nextInt(11)));
        }
        if (text.length() > 0 && random.nextInt(8) == 0) {
            text.setCharAt(random.nextInt(text.length()), (char) ('0' + random.nextInt(11)));
        }
        return text.length() > 60 ? text.substring(0, 60) : text.toString();
    }

    private int window() {
        int windows = (int) model.call("told", new int[] {1});
        int kind = random.nextInt(30);
        return kind == 0 ? windows : kind == 1 ? -1 : kind == 2 ? wild() : random.nextInt(windows);
    }

    private int number(int least, int most) {
        int kind = random.nextInt(40);
        return kind == 0 ? most + 1 : kind == 1 ? least - 1 : kind == 2 ? wild() : least + random.nextInt(most - least + 1);
    }

    private int wild() {
        int[] some = {Integer.MIN_VALUE, Integer.MAX_VALUE, -7, 1 << 16, 31, 32, 33, 64, 1024, random.nextInt()};
        return some[random.nextInt(some.length)];
    }

    /** A length that is heard now is more telling than any number. */
    private int length() {
        int kind = random.nextInt(10);
        if (kind < 4) {
            int windows = (int) model.call("told", new int[] {1});
            return (int) model.call("hears", new int[] {random.nextInt(windows)});
        }
        return kind < 9 ? number(1, 24) : number(1, 200);
    }

    private int[] drawn(String name) {
        switch (name) {
            case "gap": return new int[] {window(), number(1, 9)};
            case "set": return setting();
            case "say": return new int[] {number(33, 126)};
            case "fault": case "judge": case "clashed": case "heard": case "ask": case "turns": case "image":
            case "restore": return new int[] {number(0, 1)};
            case "hears": case "behind": return new int[] {window()};
            case "interval": return new int[] {window(), window(), number(0, 1)};
            case "stopped": return new int[] {window(), length(), number(0, 1)};
            case "friends": return new int[] {window(), length(), window(), length(), number(0, 1)};
            case "changes": return new int[] {window(), number(0, 1)};
            case "shifts": return new int[] {window(), window()};
            case "seen": return new int[] {window(), length()};
            case "fit": return new int[] {number(0, 3)};
            case "borrow": return new int[] {window(), window(), number(1, 9)};
            case "hooks": return hooks();
            case "slips": return new int[] {window(), length(), number(0, 10), number(0, 1)};
            case "calm": return new int[] {number(0, 10), number(0, 1)};
            case "year": return new int[] {number(0, 9999), number(1, 99), number(0, 2)};
            case "told": return new int[] {number(0, 20)};
            default: return new int[0];
        }
    }

    private int[] setting() {
        int which = number(0, 2);
        int most = which == 1 && random.nextInt(4) == 0 ? 99 : 9;
        return new int[] {which, number(0, most)};
    }

    private int[] hooks() {
        int f = number(2, 16);
        int bound = f >= 2 && f <= 16 ? f : 16;
        int lengths = random.nextInt(1 << bound) << 1;
        int kind = random.nextInt(6);
        if (kind == 0) {
            lengths = (1 << bound + 1) - 2;
        } else if (kind < 3) {
            lengths &= random.nextInt();
        } else if (kind == 3 && random.nextInt(3) == 0) {
            lengths = wild();
        }
        return new int[] {f, lengths, number(0, 1)};
    }
}
