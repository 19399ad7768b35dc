import java.io.IOException;
import java.lang.reflect.Constructor;
import java.lang.reflect.Field;
import java.lang.reflect.Method;
import java.lang.reflect.Modifier;
import java.nio.file.Files;
import java.nio.file.Path;
import java.util.Set;
import java.util.TreeSet;
import java.util.regex.Matcher;
import java.util.regex.Pattern;

/** The document's face, and those rules of LANGUAGE.md that a program can look at. */
public final class FaceTest {
    private static final String[] FACE = {
        "int windows(int)", "int gap(int,int)", "int set(int,int)", "int say(int)", "int wipe()", "int fault(int)",
        "int judge(int)", "int done()", "int hears(int)", "int behind(int)", "int clashed(int)",
        "long interval(int,int,int)", "int heard(int)", "int stopped(int,int,int)",
        "int friends(int,int,int,int,int)", "int changes(int,int)", "int shifts(int,int)", "int seen(int,int)",
        "int forget()", "int fit(int)", "int ask(int)", "int borrow(int,int,int)", "int teas()", "int feet()",
        "int hooks(int,int,int)", "int turns(int)", "long slips(int,int,int,int)", "long calm(int,int)",
        "int year(int,int,int)", "int image(int)", "int restore(int)", "int told(int)"};

    public static void main(String[] args) throws Exception {
        face();
        constants();
        classesInside();
        source(args.length > 0 ? args[0] : "src/main/java/StreetString.java");
        extremes();
        Check.end();
    }

    private static void face() {
        Check.dueTrue("the class is public and final", StreetString.class.getModifiers() == (Modifier.PUBLIC | Modifier.FINAL));
        Set<String> due = new TreeSet<>(Set.of(FACE));
        Set<String> got = new TreeSet<>();
        Set<String> names = new TreeSet<>();
        for (Method m : StreetString.class.getDeclaredMethods()) {
            if (!Modifier.isPrivate(m.getModifiers())) {
                got.add(m.toString().replace("public ", "").replace("StreetString.", ""));
                names.add(m.getName());
            }
        }
        Check.dueTrue("the face is " + got, got.equals(due));
        for (Method m : StreetString.class.getDeclaredMethods()) {
            Check.dueTrue(m + " bears a public name", !Modifier.isPrivate(m.getModifiers()) || !names.contains(m.getName()));
        }
        for (Class<?> inside : StreetString.class.getDeclaredClasses()) {
            for (Method m : inside.getDeclaredMethods()) {
                Check.dueTrue(m + " bears a public name", !names.contains(m.getName()));
            }
        }
        Constructor<?>[] constructors = StreetString.class.getDeclaredConstructors();
        Check.due("constructors", constructors.length, 1);
        Check.due("parameters", constructors[0].getParameterCount(), 0);
        Check.due("public", constructors[0].getModifiers(), Modifier.PUBLIC);
    }

    private static void constants() throws IllegalAccessException {
        String[] names = {"NONE", "UNKNOWN", "OUTSIDE", "STATE", "FULL", "NO", "LOST"};
        long[] values = {-6, -1, -2, -3, -4, -5, -1000000000000000000L};
        Set<String> open = new TreeSet<>();
        for (Field f : StreetString.class.getDeclaredFields()) {
            if (!Modifier.isPrivate(f.getModifiers())) {
                open.add(f.getName());
                int i = java.util.Arrays.asList(names).indexOf(f.getName());
                Check.dueTrue(f + " is of the document", i >= 0);
                Check.due(f.getName(), i < 0 ? 0 : f.getLong(null), i < 0 ? 1 : values[i]);
                Check.dueTrue(f + " is long", (f.getType() == long.class) == f.getName().equals("LOST"));
                Check.due(f + " is public, static and final", f.getModifiers(), Modifier.PUBLIC | Modifier.STATIC | Modifier.FINAL);
            }
            Check.dueTrue(f + " is no state of the class", !Modifier.isStatic(f.getModifiers()) || Modifier.isFinal(f.getModifiers()));
        }
        Check.due("constants", open.size(), names.length);
    }

    private static void classesInside() {
        Class<?>[] inside = StreetString.class.getDeclaredClasses();
        Check.dueTrue("some twelve classes", inside.length <= 11);
        for (Class<?> c : inside) {
            int m = c.getModifiers();
            Check.dueTrue(c + " is static", Modifier.isStatic(m) && !Modifier.isPublic(m) && !Modifier.isProtected(m));
            int fields = 0;
            for (Field f : c.getDeclaredFields()) {
                Check.dueTrue(f + " is no state of the class", !Modifier.isStatic(f.getModifiers()) || Modifier.isFinal(f.getModifiers()));
                fields += Modifier.isStatic(f.getModifiers()) ? 0 : 1;
            }
            Check.dueTrue(c + " has some twenty fields", fields <= 20);
            for (Method method : c.getDeclaredMethods()) {
                Check.dueTrue(method + " has at most seven parameters", method.getParameterCount() <= 7);
            }
        }
    }

    private static void source(String path) throws IOException {
        byte[] bytes = Files.readAllBytes(Path.of(path));
        for (byte b : bytes) {
            if (b != '\n' && (b < 32 || b > 126)) {
                Check.due("a sign that is not plain", b, ' ');
            }
        }
        String text = new String(bytes, java.nio.charset.StandardCharsets.US_ASCII);
        text = text.replaceAll("(?s)/\\*.*?\\*/", "").replaceAll("//[^\n]*", "");
        String[] banned = {
            "import ", "package ", "throw ", "throws ", "try ", "catch ", "finally", "->", "::", "Exact", "static {",
            "synchronized", "assert ", "System.", "Random", "Thread", "Object", "hashCode", "toString", "while (true)",
            "for (;;)", "double", "float", "instanceof", "null"};
        for (String word : banned) {
            Check.dueTrue("the source has " + word, !text.contains(word));
        }
        int longest = 0;
        Matcher heads = Pattern.compile("(?m)^( {4}| {8})(?:[a-zA-Z\\[\\]]+ )+[a-zA-Z]+\\([^;]*?\\) \\{\n(?s:.*?)\n\\1\\}$").matcher(text);
        int methods = 0;
        while (heads.find()) {
            methods++;
            longest = Math.max(longest, heads.group().split("\n").length);
        }
        Check.dueTrue("methods are found", methods > 60);
        Check.dueTrue("some sixty lines at most, " + longest, longest <= 60);
        Check.due("objects are made in constructors alone", makersOutside(text), 0);
    }

    private static int makersOutside(String text) {
        String withoutConstructors = text.replaceAll("(?m)^( {4}public | {8})[A-Z][A-Za-z]*\\(\\) \\{\n(?s:.*?)\n {4,8}\\}$", "");
        return withoutConstructors.split("\\bnew ", -1).length - 1;
    }

    /** Every call by every mix of odd numbers, from a plain state and a full one: nothing throws. */
    private static void extremes() throws Exception {
        int[] odd = {Integer.MIN_VALUE, -1, 0, 1, 2, 9, 10, 16, 31, 32, 200, Integer.MAX_VALUE};
        for (int state = 0; state < 4; state++) {
            for (Method m : StreetString.class.getDeclaredMethods()) {
                if (!Modifier.isPublic(m.getModifiers())) {
                    continue;
                }
                int mixes = 1;
                for (int i = 0; i < m.getParameterCount(); i++) {
                    mixes *= odd.length;
                }
                StreetString x = inState(state);
                for (int mix = 0; mix < mixes; mix += mixes > 20000 ? 7 : 1) {
                    if (mix % 100 == 0) {
                        x = inState(state);
                    }
                    Object[] given = new Object[m.getParameterCount()];
                    int rest = mix;
                    for (int i = 0; i < given.length; i++) {
                        given[i] = odd[rest % odd.length];
                        rest /= odd.length;
                    }
                    m.invoke(x, given);
                }
            }
        }
    }

    private static StreetString inState(int state) {
        StreetString x = new StreetString();
        if (state == 0) {
            return x;
        }
        x.windows(state == 1 ? 2 : 10);
        Check.play(x, state == 1 ? "b" : "+++++++++acdefghi");
        for (int i = 0; i < 8; i++) {
            x.seen(0, 5);
        }
        for (int i = 0; i < 60; i++) {
            x.say(state == 2 ? "20".charAt(i % 2) : "a.".charAt(i % 2));
        }
        return x;
    }
}
