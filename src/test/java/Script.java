import java.lang.reflect.Method;
import java.lang.reflect.Modifier;
import java.util.ArrayList;
import java.util.List;
import java.util.Map;
import java.util.TreeMap;

/**
 * Runs of calls on a new object, told as texts, a call a line: "gap 0 9 : 2" (the answer that is due behind
 * the colon). A line without a colon only prepares, and may not be refused. "tell T" wipes the pad and says
 * T, "play T" has it done too, "fill T" says T again and again until the pad is full, "times N call" makes a
 * call N times. Wherever a refusal is due, all that can be read must be the same before and behind it.
 */
final class Script {
    private static final int MOST_CALLS = 512;
    private static final int MOST_SIGNS = 60;
    private static final Map<String, Method> METHODS = methods();
    private static final Map<String, Long> WORDS = Map.of(
        "NONE", -6L, "UNKNOWN", -1L, "OUTSIDE", -2L, "STATE", -3L, "FULL", -4L, "NO", -5L,
        "MIN", (long) Integer.MIN_VALUE, "MAX", (long) Integer.MAX_VALUE);
    private static final long LOST = -1000000000000000000L;

    private final StreetString street = new StreetString();
    private int calls = 0;

    private Script() {
    }

    /** What the document says, in words, and the calls that show it. */
    static void run(String promise, String text) {
        List<String> lines = lines(text);
        Script one = new Script();
        for (int i = 0; i < lines.size(); i++) {
            one.perform(promise, lines.get(i));
        }
        for (int i = 0; i < lines.size(); i++) {
            if (isRefusal(dueOf(lines.get(i)))) {
                nothingChanges(promise, lines, i);
            }
        }
    }

    private static void nothingChanges(String promise, List<String> lines, int refused) {
        Script one = behind(lines, refused);
        List<Long> before = one.readings();
        one.answer(callOf(lines.get(refused)));
        String what = promise + ": nothing is changed by " + lines.get(refused);
        Check.dueTrue(what, before.equals(one.readings()));
        Script without = behind(lines, refused);
        Script with = behind(lines, refused);
        with.answer(callOf(lines.get(refused)));
        Check.dueTrue(what + ", nor hidden", without.all().equals(with.all()));
    }

    private static Script behind(List<String> lines, int count) {
        Script made = new Script();
        for (int i = 0; i < count; i++) {
            if (!isRefusal(dueOf(lines.get(i)))) {
                made.perform("again", lines.get(i));
            }
        }
        return made;
    }

    private void perform(String promise, String line) {
        String call = callOf(line);
        Long due = dueOf(line);
        if (call.startsWith("tell ") || call.startsWith("play ") || call.startsWith("fill ")) {
            prepare(call.substring(0, 4), call.substring(5));
        } else if (call.startsWith("times ")) {
            String[] words = call.split(" ", 3);
            for (int i = 0; i < Integer.parseInt(words[1]); i++) {
                Check.dueTrue(promise + ": " + call + " is refused", answer(words[2]) >= 0);
            }
        } else if (due == null) {
            Check.dueTrue(promise + ": " + call + " is refused", answer(call) >= 0);
        } else {
            Check.due(promise + ": " + call, answer(call), due);
        }
    }

    private void prepare(String how, String text) {
        if (!how.equals("fill")) {
            answer("wipe");
        }
        int signs = how.equals("fill") ? MOST_SIGNS - (int) answer("told 0") : text.length();
        for (int i = 0; i < signs; i++) {
            answer("say " + (int) text.charAt(i % text.length()));
        }
        if (how.equals("play")) {
            Check.due("play " + text, answer("done"), text.length());
        }
    }

    private long answer(String call) {
        calls++;
        if (calls > MOST_CALLS) {
            throw new IllegalStateException("a script of too many calls, at " + call);
        }
        String[] words = call.split(" ");
        Method method = METHODS.get(words[0]);
        if (method == null) {
            throw new IllegalArgumentException("no such call: " + call);
        }
        Object[] given = new Object[words.length - 1];
        for (int i = 0; i < given.length; i++) {
            given[i] = (int) number(words[i + 1]);
        }
        try {
            return ((Number) method.invoke(street, given)).longValue();
        } catch (ReflectiveOperationException e) {
            throw new IllegalStateException(call, e);
        }
    }

    /** What can be read without changing anything. */
    private List<Long> readings() {
        List<Long> read = new ArrayList<>();
        long windows = answer("told 1");
        for (String call : new String[] {
            "told 0", "told 1", "told 2", "told 3", "told 4", "told 5", "told 6", "told 7", "fault 0", "fault 1",
            "judge 0", "judge 1", "clashed 0", "clashed 1", "heard 0", "heard 1", "fit 0", "fit 1", "fit 2", "fit 3",
            "ask 0", "ask 1", "teas", "feet", "turns 0", "turns 1", "calm 3 0", "calm 3 1", "changes 0 0",
            "changes 0 1", "shifts 0 1", "year 5 30 0", "year 5 30 1", "year 5 30 2"}) {
            read.add(answer(call));
        }
        for (int window = 0; window < windows; window++) {
            read.add(answer("told " + (10 + window)));
            read.add(answer("hears " + window));
            read.add(answer("behind " + window));
        }
        return read;
    }

    /** What can be read and what only later calls tell: who owes how much, what the images hold. */
    private List<Long> all() {
        List<Long> read = new ArrayList<>(readings());
        addDebts(read);
        read.add(answer("done"));
        for (int n = 0; n < 2; n++) {
            read.add(answer("restore " + n));
            for (int what = 0; what < 20; what++) {
                read.add(answer("told " + what));
            }
            read.add(answer("fit 0"));
            read.add(answer("fit 3"));
            addDebts(read);
        }
        return read;
    }

    private void addDebts(List<Long> read) {
        long windows = answer("told 1");
        for (int window = 0; window < windows; window++) {
            read.add(answer("borrow " + window + " " + (window + 1) % windows + " 1"));
        }
    }

    private static List<String> lines(String text) {
        List<String> found = new ArrayList<>();
        for (String line : text.split("\n")) {
            if (!line.isBlank()) {
                found.add(line.strip());
            }
        }
        return found;
    }

    private static String callOf(String line) {
        int colon = line.indexOf(" : ");
        return colon < 0 ? line : line.substring(0, colon);
    }

    private static Long dueOf(String line) {
        int colon = line.indexOf(" : ");
        return colon < 0 ? null : number(line.substring(colon + 3));
    }

    private static boolean isRefusal(Long due) {
        return due != null && (due >= -5 && due <= -1 || due >= LOST - 5 && due <= LOST - 1);
    }

    private static long number(String word) {
        if (word.startsWith("LOST+")) {
            return LOST + number(word.substring(5));
        }
        if (word.length() == 3 && word.charAt(0) == '\'') {
            return word.charAt(1);
        }
        return WORDS.containsKey(word) ? WORDS.get(word) : Long.parseLong(word);
    }

    private static Map<String, Method> methods() {
        Map<String, Method> found = new TreeMap<>();
        for (Method method : StreetString.class.getDeclaredMethods()) {
            if (Modifier.isPublic(method.getModifiers())) {
                found.put(method.getName(), method);
            }
        }
        return found;
    }
}
