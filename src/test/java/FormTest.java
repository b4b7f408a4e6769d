import java.lang.reflect.Constructor;
import java.lang.reflect.Field;
import java.lang.reflect.Method;
import java.lang.reflect.Modifier;
import java.nio.file.Files;
import java.nio.file.Path;
import java.util.ArrayList;
import java.util.Arrays;
import java.util.List;
import java.util.Map;
import java.util.Set;
import java.util.TreeMap;
import java.util.TreeSet;
import java.util.regex.Matcher;
import java.util.regex.Pattern;

/** The face of the class, as the document writes it, and those rules of LANGUAGE.md that a text search can see. */
public final class FormTest {
    private static Check check;

    private static final int MOST_LINES = 60, MOST_DEEP = 8, MOST_CLASSES = 12, MOST_FIELDS = 20, MOST_PARAMETERS = 7;

    private static void due(String what, boolean so) {
        check.due(what, so);
    }

    private static Set<String> faceOfDocument(String face) {
        Set<String> methods = new TreeSet<>();
        Matcher m = Pattern.compile("public (int|long) (\\w+)\\((.*?)\\);").matcher(face);
        while (m.find()) {
            int parameters = m.group(3).isEmpty() ? 0 : m.group(3).split(",").length;
            methods.add(m.group(1) + " " + m.group(2) + " " + parameters);
        }
        return methods;
    }

    private static Set<String> faceOfClass() {
        Set<String> methods = new TreeSet<>();
        for (Method m : TwoHeapsAlike.class.getDeclaredMethods()) {
            if (!Modifier.isPrivate(m.getModifiers()) && !m.isSynthetic()) {
                boolean ints = Arrays.stream(m.getParameterTypes()).allMatch(t -> t == int.class);
                due("public and of ints: " + m, Modifier.isPublic(m.getModifiers()) && ints);
                methods.add(m.getReturnType() + " " + m.getName() + " " + m.getParameterCount());
            }
        }
        return methods;
    }

    private static void face(String face) {
        int modifiers = TwoHeapsAlike.class.getModifiers();
        due("public and final", Modifier.isPublic(modifiers) && Modifier.isFinal(modifiers));
        Constructor<?>[] constructors = TwoHeapsAlike.class.getDeclaredConstructors();
        due("one constructor", constructors.length == 1 && Modifier.isPublic(constructors[0].getModifiers())
            && constructors[0].getParameterCount() == 0);
        Set<String> told = faceOfDocument(face);
        due("40 methods are told", told.size() == 40);
        due("the methods of the document and no others", told.equals(faceOfClass()));
        Set<String> constants = new TreeSet<>();
        for (Field f : TwoHeapsAlike.class.getDeclaredFields()) {
            if (!Modifier.isPrivate(f.getModifiers()) && !f.isSynthetic()) {
                constants.add(f.getType() + " " + f.getName());
            }
        }
        due("the constants", constants.equals(Set.of("int NONE", "int BAD", "int STATE", "int FULL", "long NO")));
        check.due("NONE", TwoHeapsAlike.NONE, -1);
        check.due("BAD", TwoHeapsAlike.BAD, -2);
        check.due("STATE", TwoHeapsAlike.STATE, -3);
        check.due("FULL", TwoHeapsAlike.FULL, -4);
        check.due("NO", TwoHeapsAlike.NO, -(1L << 62));
    }

    /** The calls stand in the document's order, each group behind what the interface says ahead of it. */
    private static void groups(Map<String, List<String>> groups, String source) {
        List<String> told = new ArrayList<>();
        groups.forEach((says, calls) -> {
            told.add("---- " + says);
            told.addAll(calls);
        });
        List<String> written = new ArrayList<>();
        Matcher m = Pattern.compile("(?m)^    (?:// (---- .*)|public (?:int|long) (\\w+)\\(.*)$").matcher(source);
        while (m.find()) {
            written.add(m.group(1) != null ? m.group(1) : m.group(2));
        }
        due("eight groups of 40 calls are told", groups.size() == 8 && told.size() == 48);
        due("the groups of the document: " + written,
            written.size() >= told.size() && written.subList(0, told.size()).equals(told));
    }

    private static void classes() {
        Class<?>[] inside = TwoHeapsAlike.class.getDeclaredClasses();
        due("classes", inside.length < MOST_CLASSES);
        fields(TwoHeapsAlike.class);
        for (Class<?> c : inside) {
            due("static and not public: " + c, Modifier.isStatic(c.getModifiers()) && !Modifier.isPublic(c.getModifiers()));
            fields(c);
        }
    }

    private static void fields(Class<?> c) {
        int fields = 0;
        Set<String> names = new TreeSet<>();
        for (Method m : TwoHeapsAlike.class.getDeclaredMethods()) {
            if (Modifier.isPublic(m.getModifiers())) {
                names.add(m.getName());
            }
        }
        for (Field f : c.getDeclaredFields()) {
            boolean isStatic = Modifier.isStatic(f.getModifiers());
            fields += isStatic ? 0 : 1;
            due("static only if final: " + f, !isStatic || Modifier.isFinal(f.getModifiers()));
        }
        due("fields of " + c, fields <= MOST_FIELDS);
        for (Method m : c.getDeclaredMethods()) {
            due("parameters of " + m, m.getParameterCount() <= MOST_PARAMETERS);
            due("no name of a public one: " + m, Modifier.isPublic(m.getModifiers()) || !names.contains(m.getName()));
        }
    }

    /** The program without what its comments, texts and signs say. */
    private static String code(String source) {
        return source.replaceAll("(?s)/\\*.*?\\*/", "").replaceAll("//[^\n]*", "")
            .replaceAll("\"[^\"\n]*\"", "\"\"").replaceAll("'(\\\\.|[^'\n])'", "' '");
    }

    private static void language(String source) {
        String code = code(source);
        String[] words = {"throw", "throws", "try", "catch", "finally", "synchronized", "assert", "import", "package",
            "volatile", "native", "transient", "Object", "String\\s*\\[", "String\\.", "Exact", "hashCode", "toString", "equals", "System\\.[^a]"};
        for (String word : words) {
            due("none of '" + word + "'", !Pattern.compile("\\b" + word + "(\\b|(?<=\\W))").matcher(code).find());
        }
        due("no lambda, no reference, no arrow", !code.contains("->") && !code.contains("::"));
        due("signs 1 to 127", source.chars().allMatch(c -> c > 0 && c < 128));
        due("no text is joined by +", !code.contains("\" +") && !code.contains("+ \""));
        // What is made is made once: in fields, and in the constructor, which is at the head of the file.
        int made = code.indexOf("textCount = 1;");
        Matcher m = Pattern.compile("(?m)^(.*)\\bnew\\b").matcher(code);
        while (m.find()) {
            due("made once: " + m.group(), m.start() < made || m.group(1).matches("\\s+(private )?final .* = "));
        }
        methodLengths(source);
        library(code);
        callDepth(code);
    }

    /** Capitals begin constants, the program's own classes, and these. */
    private static void library(String code) {
        Set<String> known = new TreeSet<>(Set.of("String", "Math", "Integer", "System"));
        for (Class<?> c : TwoHeapsAlike.class.getDeclaredClasses()) {
            known.add(c.getSimpleName());
        }
        known.add("TwoHeapsAlike");
        Matcher m = Pattern.compile("\\b[A-Z]\\w*[a-z]\\w*").matcher(code);
        while (m.find()) {
            due("a class of its own, or of the library's list: " + m.group(), known.contains(m.group()));
        }
        m = Pattern.compile("\\b(Math|Integer|System)\\.(\\w+)").matcher(code);
        while (m.find()) {
            due("on the library's list: " + m.group(), Set.of("abs", "min", "max", "bitCount", "arraycopy").contains(m.group(2)));
        }
    }

    /** Which of the program's methods each of them calls; those of one name count as one. */
    private static Map<String, Set<String>> callsOf(String code) {
        Map<String, Set<String>> calls = new TreeMap<>();
        Matcher m = Pattern.compile("(?m)^( {4}| {8})(?:[\\w\\[\\]]+ )+(\\w+)\\([^;]*\\) \\{$").matcher(code);
        while (m.find()) {
            String body = code.substring(m.end(), code.indexOf("\n" + m.group(1) + "}", m.end()));
            Set<String> called = calls.computeIfAbsent(m.group(2), name -> new TreeSet<>());
            Matcher call = Pattern.compile("\\b(\\w+)\\(").matcher(body);
            while (call.find()) {
                called.add(call.group(1));
            }
        }
        calls.values().forEach(called -> called.retainAll(calls.keySet()));
        return calls;
    }

    private static Set<String> reached(Map<String, Set<String>> calls, String from) {
        Set<String> reached = new TreeSet<>();
        List<String> left = new ArrayList<>(calls.get(from));
        while (!left.isEmpty()) {
            String name = left.remove(left.size() - 1);
            if (reached.add(name)) {
                left.addAll(calls.get(name));
            }
        }
        return reached;
    }

    /** How deep calls go from here; those that call one another again count as one. */
    private static int depth(Map<String, Set<String>> calls, String from, int open) {
        int deepest = 1;
        for (String name : reached(calls, from)) {
            boolean again = reached(calls, name).contains(from);
            if (!again && open < MOST_DEEP + 2) {
                deepest = Math.max(deepest, 1 + depth(calls, name, open + 1));
            }
        }
        return deepest;
    }

    private static void callDepth(String code) {
        Map<String, Set<String>> calls = callsOf(code);
        due("there are calls", calls.size() > 80 && calls.get("text").contains("readInto"));
        for (String name : calls.keySet()) {
            due("calls go at most eight deep: " + name, depth(calls, name, 1) <= MOST_DEEP);
        }
        // The one recursion, a method for each rule of a TEXT's grammar, goes as deep as five are open.
        Set<String> again = new TreeSet<>();
        calls.keySet().stream().filter(name -> reached(calls, name).contains(name)).forEach(again::add);
        due("no other recursion: " + again,
            again.equals(Set.of("either", "both", "denied", "compared", "sum", "term", "one")));
    }

    private static void methodLengths(String source) {
        String[] lines = source.split("\n");
        int start = -1;
        for (int i = 0; i < lines.length; i++) {
            if (lines[i].matches(" {4,8}[^ }/*@].*\\) \\{")) {
                start = i;
            }
            if (lines[i].matches(" {4}( {4})?\\}") && start >= 0) {
                due("lines of " + lines[start].trim(), i - start < MOST_LINES);
                start = -1;
            }
        }
    }

    public static void main(String[] args) throws Exception {
        check = new Check("FormTest", args[0]);
        String source = Files.readString(Path.of(args[1]));
        Document document = new Document(args[0]);
        face(document.face());
        groups(document.groups(), source);
        classes();
        language(source);
        check.end();
    }
}
