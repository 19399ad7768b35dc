import java.io.File;
import java.io.IOException;
import java.lang.reflect.Method;
import java.lang.reflect.Modifier;
import java.net.URL;
import java.net.URLClassLoader;
import java.nio.file.Files;
import java.nio.file.Path;
import java.util.ArrayList;
import java.util.List;
import java.util.Set;
import java.util.TreeSet;
import java.util.regex.Matcher;
import java.util.regex.Pattern;

/** README.md shows what the class answers: its examples are compiled and run, and nothing is left out. */
public final class ReadmeTest {
    private static final Pattern BLOCK = Pattern.compile("(?s)```java\n(.*?)```");
    private static final Pattern SHOWN =
        Pattern.compile("(street\\.[a-z]+\\(.*\\)); +// (-?\\d+|[A-Z]+(?: \\+ [A-Z]+)?)(?::.*)?");

    public static void main(String[] args) throws Exception {
        String page = Files.readString(Path.of("README.md"));
        List<String> blocks = blocks(page);
        Check.dueTrue("there are examples", blocks.size() >= 4);
        everyCallIsShown(blocks);
        everyTestIsNamed(page);
        runExamples(blocks);
        Check.end();
    }

    private static List<String> blocks(String page) {
        List<String> found = new ArrayList<>();
        Matcher block = BLOCK.matcher(page);
        while (block.find()) {
            found.add(block.group(1));
        }
        return found;
    }

    private static void everyCallIsShown(List<String> blocks) {
        String all = String.join("\n", blocks);
        for (Method method : StreetString.class.getDeclaredMethods()) {
            if (Modifier.isPublic(method.getModifiers())) {
                Check.dueTrue("no example of " + method.getName(), all.contains("street." + method.getName() + "("));
            }
        }
    }

    private static void everyTestIsNamed(String page) {
        Set<String> named = new TreeSet<>();
        Matcher name = Pattern.compile("`([A-Z][A-Za-z]*Test)`").matcher(page);
        while (name.find()) {
            named.add(name.group(1));
        }
        Set<String> there = new TreeSet<>();
        String[] files = new File("src/test/java").list();
        for (String file : files == null ? new String[0] : files) {
            if (file.endsWith("Test.java")) {
                there.add(file.substring(0, file.length() - ".java".length()));
            }
        }
        Check.dueTrue("named are " + named + ", there are " + there, named.equals(there));
    }

    private static void runExamples(List<String> blocks) throws Exception {
        Path folder = Files.createTempDirectory("readme");
        try {
            if (compile(folder, program(blocks))) {
                URL[] path = {folder.toUri().toURL()};
                try (URLClassLoader loader = new URLClassLoader(path, ReadmeTest.class.getClassLoader())) {
                    loader.loadClass("ReadmeExamples").getMethod("run").invoke(null);
                }
            }
        } finally {
            remove(folder);
        }
    }

    private static String program(List<String> blocks) {
        StringBuilder out = new StringBuilder("public final class ReadmeExamples {\npublic static void run() {\n");
        for (String block : blocks) {
            out.append("{\n");
            for (String line : block.split("\n")) {
                out.append(line.startsWith("street.") ? checked(line) : line).append("\n");
            }
            out.append("}\n");
        }
        return out.append("}\n}\n").toString();
    }

    /** For the examples, which live in a class loader of their own and so can not see Check. */
    public static void shown(String call, long got, long want) {
        Check.due("README.md: " + call, got, want);
    }

    private static String checked(String line) {
        Matcher shown = SHOWN.matcher(line);
        if (!shown.matches()) {
            Check.dueTrue("README.md tells no answer: " + line, false);
            return "";
        }
        String want = shown.group(2).replaceAll("([A-Z]+)", "StreetString.$1");
        String call = shown.group(1);
        return "ReadmeTest.shown(\"" + call.replace("\"", "\\\"") + "\", " + call + ", " + want + ");";
    }

    private static boolean compile(Path folder, String program) throws IOException, InterruptedException {
        Path source = folder.resolve("ReadmeExamples.java");
        Files.writeString(source, program);
        int code = new ProcessBuilder("javac", "-d", folder.toString(), "-cp", System.getProperty("java.class.path"),
            source.toString()).inheritIO().start().waitFor();
        Check.due("README.md's examples compile", code, 0);
        return code == 0;
    }

    private static void remove(Path folder) throws IOException {
        File[] files = folder.toFile().listFiles();
        for (File file : files == null ? new File[0] : files) {
            Files.deleteIfExists(file.toPath());
        }
        Files.deleteIfExists(folder);
    }
}
