import java.io.IOException;
import java.lang.reflect.InvocationTargetException;
import java.lang.reflect.Method;
import java.lang.reflect.Modifier;
import java.net.URL;
import java.net.URLClassLoader;
import java.nio.file.Files;
import java.nio.file.Path;
import java.util.ArrayList;
import java.util.Comparator;
import java.util.List;
import java.util.Set;
import java.util.TreeSet;
import java.util.regex.Matcher;
import java.util.regex.Pattern;
import java.util.stream.Stream;
import javax.tools.ToolProvider;

/** README.md: whether its example answers as it says, and whether it tells all calls and all tests. */
public final class ReadmeTest {
    /** A call of the example, and the number that stands behind it. */
    private static final Pattern CALL = Pattern.compile("(?m)^ +((?:x\\.|text\\().*);\\s+// (-?\\d+)(?:: .*)?$");
    private static int wrong = 0;

    private static void due(String what, boolean so) {
        if (!so) {
            wrong++;
            System.out.println("ReadmeTest: " + what);
        }
    }

    /** Called by the example in place of its calls. */
    public static void due(String call, long got, long want) {
        due(call + " answered " + got + ", README.md says " + want, got == want);
    }

    private static String between(String text, String from, String to) {
        int start = text.indexOf(from);
        int end = text.indexOf(to, start + from.length());
        due("README.md has '" + from + "' and '" + to + "' behind it", start >= 0 && end >= 0);
        return start >= 0 && end >= 0 ? text.substring(start + from.length(), end) : "";
    }

    private static List<String> found(String regex, String text) {
        List<String> found = new ArrayList<>();
        Matcher m = Pattern.compile(regex).matcher(text);
        while (m.find()) {
            found.add(m.group(1));
        }
        return found;
    }

    // ---- the example

    private static String asking(String example) {
        return CALL.matcher(example).replaceAll(call -> Matcher.quoteReplacement("ReadmeTest.due(\""
            + call.group(1).replace("\"", "\\\"") + "\", " + call.group(1) + ", " + call.group(2) + "L);"));
    }

    private static void run(String example, Path folder) throws Exception {
        Path file = folder.resolve("Example.java");
        Files.writeString(file, example);
        String classes = System.getProperty("java.class.path");
        int compiled = ToolProvider.getSystemJavaCompiler().run(null, null, null,
            "-cp", classes, "-d", folder.toString(), file.toString());
        due("the example compiles", compiled == 0);
        if (compiled != 0) {
            return;
        }
        try (URLClassLoader loader = new URLClassLoader(new URL[] {folder.toUri().toURL()})) {
            loader.loadClass("Example").getMethod("main", String[].class).invoke(null, (Object) new String[0]);
        } catch (InvocationTargetException thrown) {
            due("the example ends, but for " + thrown.getCause(), false);
        }
    }

    private static void remove(Path folder) throws IOException {
        try (Stream<Path> inside = Files.walk(folder)) {
            for (Path path : inside.sorted(Comparator.reverseOrder()).toList()) {
                Files.delete(path);
            }
        }
    }

    private static long example(String readme) throws Exception {
        String example = between(readme, "```java\n", "```");
        long calls = CALL.matcher(example).results().count();
        // All but the one that feeds, which has no one answer.
        due("each call tells its answer", calls == found("(?m)^ {8}((?:x\\.|text\\().*)$", example).size() && calls > 0);
        Path folder = Files.createTempDirectory("readme");
        try {
            run(example, folder);
            run(asking(example), folder);
        } finally {
            remove(folder);
        }
        return calls;
    }

    // ---- what it lists

    private static void calls(String readme) {
        List<String> told = found("`(\\w+\\([\\w, ]*\\))`", between(readme, "| calls |", "\n\n"));
        Set<String> names = new TreeSet<>();
        for (String call : told) {
            String parameters = call.substring(call.indexOf('(') + 1, call.length() - 1);
            names.add(call.substring(0, call.indexOf('(')) + (parameters.isEmpty() ? 0 : parameters.split(", ").length));
        }
        due("each call is told once", told.size() == names.size());
        Set<String> face = new TreeSet<>();
        for (Method m : TwoHeapsAlike.class.getDeclaredMethods()) {
            if (Modifier.isPublic(m.getModifiers())) {
                face.add(m.getName() + m.getParameterCount());
            }
        }
        due("it tells all calls and no others: " + names, names.equals(face));
    }

    private static void constants(String readme) throws Exception {
        for (String name : List.of("NONE", "BAD", "STATE", "FULL")) {
            int value = TwoHeapsAlike.class.getField(name).getInt(null);
            due("it tells " + name, readme.contains("`" + name + "` (" + value + ")"));
        }
        due("it tells NO", readme.contains("`NO`"));
    }

    private static void tests(String readme, Path folder) throws IOException {
        Set<String> there = new TreeSet<>();
        try (Stream<Path> files = Files.list(folder)) {
            files.map(file -> file.getFileName().toString()).filter(name -> name.endsWith("Test.java"))
                .forEach(name -> there.add(name.replace(".java", "")));
        }
        List<String> told = found("(?m)^\\| `(\\w+)` \\|", between(readme, "| test |", "\n\n"));
        due("it tells all tests once and no others: " + told, told.size() == there.size() && there.containsAll(told));
    }

    /** What its shell block names is there: the tests, and the files that they are given. */
    private static void commands(String readme) {
        String commands = between(readme, "```sh\n", "```");
        for (String file : found(" ([\\w./]+/[\\w./]+|\\w+\\.md)\\b", commands)) {
            due(file + " is there", file.startsWith("/tmp/") || Files.exists(Path.of(file)));
        }
        for (String test : found("java -cp /tmp/out (\\w+)", commands)) {
            due(test + " is there", Files.exists(Path.of("src/test/java", test + ".java")));
        }
    }

    public static void main(String[] args) throws Exception {
        String readme = Files.readString(Path.of(args[0]));
        long calls = example(readme);
        calls(readme);
        constants(readme);
        tests(readme, Path.of(args[1]));
        commands(readme);
        System.out.println("ReadmeTest: " + calls + " answers, " + wrong + " not as due");
        if (wrong > 0) {
            System.exit(1);
        }
    }
}
