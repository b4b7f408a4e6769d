import java.lang.reflect.Constructor;
import java.lang.reflect.Field;
import java.lang.reflect.Method;
import java.lang.reflect.Modifier;
import java.nio.file.Files;
import java.nio.file.Path;
import java.util.Arrays;
import java.util.Set;
import java.util.TreeSet;
import java.util.regex.Matcher;
import java.util.regex.Pattern;

/** The face of the class, as the document writes it, and those rules of LANGUAGE.md that a text search can see. */
public final class FormTest {
    private static final Check check = new Check("FormTest");

    private static final int MOST_LINES = 60, MOST_CLASSES = 12, MOST_FIELDS = 20, MOST_PARAMETERS = 7;

    private static void due(String what, boolean so) {
        check.due(what, so ? 1 : 0, 1);
    }

    private static Set<String> faceOfDocument(String document) {
        String face = document.substring(document.indexOf("## The public face"), document.indexOf("## Terms"));
        Set<String> methods = new TreeSet<>();
        Matcher m = Pattern.compile("public (int|long) (\\w+)\\((.*?)\\);").matcher(face);
        while (m.find()) {
            int parameters = m.group(3).isEmpty() ? 0 : m.group(3).split(",").length;
            methods.add(m.group(1) + " " + m.group(2) + " " + parameters);
        }
        return methods;
    }

    private static Set<String> faceOfClass() {
        Set<String> methods = new TreeSet<>();
        for (Method m : TwoHeapsAlike.class.getDeclaredMethods()) {
            if (!Modifier.isPrivate(m.getModifiers()) && !m.isSynthetic()) {
                boolean ints = Arrays.stream(m.getParameterTypes()).allMatch(t -> t == int.class);
                due("public and of ints: " + m, Modifier.isPublic(m.getModifiers()) && ints);
                methods.add(m.getReturnType() + " " + m.getName() + " " + m.getParameterCount());
            }
        }
        return methods;
    }

    private static void face(String document) {
        int modifiers = TwoHeapsAlike.class.getModifiers();
        due("public and final", Modifier.isPublic(modifiers) && Modifier.isFinal(modifiers));
        Constructor<?>[] constructors = TwoHeapsAlike.class.getDeclaredConstructors();
        due("one constructor", constructors.length == 1 && Modifier.isPublic(constructors[0].getModifiers())
            && constructors[0].getParameterCount() == 0);
        Set<String> told = faceOfDocument(document);
        due("40 methods are told", told.size() == 40);
        due("the methods of the document and no others", told.equals(faceOfClass()));
        Set<String> constants = new TreeSet<>();
        for (Field f : TwoHeapsAlike.class.getDeclaredFields()) {
            if (!Modifier.isPrivate(f.getModifiers()) && !f.isSynthetic()) {
                constants.add(f.getType() + " " + f.getName());
            }
        }
        due("the constants", constants.equals(Set.of("int NONE", "int BAD", "int STATE", "int FULL", "long NO")));
        check.due("NONE", TwoHeapsAlike.NONE, -1);
        check.due("BAD", TwoHeapsAlike.BAD, -2);
        check.due("STATE", TwoHeapsAlike.STATE, -3);
        check.due("FULL", TwoHeapsAlike.FULL, -4);
        check.due("NO", TwoHeapsAlike.NO, -(1L << 62));
    }

    private static void classes() {
        Class<?>[] inside = TwoHeapsAlike.class.getDeclaredClasses();
        due("classes", inside.length < MOST_CLASSES);
        fields(TwoHeapsAlike.class);
        for (Class<?> c : inside) {
            due("static and not public: " + c, Modifier.isStatic(c.getModifiers()) && !Modifier.isPublic(c.getModifiers()));
            fields(c);
        }
    }

    private static void fields(Class<?> c) {
        int fields = 0;
        Set<String> names = new TreeSet<>();
        for (Method m : TwoHeapsAlike.class.getDeclaredMethods()) {
            if (Modifier.isPublic(m.getModifiers())) {
                names.add(m.getName());
            }
        }
        for (Field f : c.getDeclaredFields()) {
            boolean isStatic = Modifier.isStatic(f.getModifiers());
            fields += isStatic ? 0 : 1;
            due("static only if final: " + f, !isStatic || Modifier.isFinal(f.getModifiers()));
        }
        due("fields of " + c, fields <= MOST_FIELDS);
        for (Method m : c.getDeclaredMethods()) {
            due("parameters of " + m, m.getParameterCount() <= MOST_PARAMETERS);
            due("no name of a public one: " + m, Modifier.isPublic(m.getModifiers()) || !names.contains(m.getName()));
        }
    }

    /** The program without what its comments, texts and signs say. */
    private static String code(String source) {
        return source.replaceAll("(?s)/\\*.*?\\*/", "").replaceAll("//[^\n]*", "")
            .replaceAll("\"[^\"\n]*\"", "\"\"").replaceAll("'(\\\\.|[^'\n])'", "' '");
    }

    private static void language(String source) {
        String code = code(source);
        String[] words = {"throw", "throws", "try", "catch", "finally", "synchronized", "assert", "import", "package",
            "volatile", "native", "transient", "Object", "String\\s*\\[", "String\\.", "Exact", "hashCode", "toString", "equals", "System\\.[^a]"};
        for (String word : words) {
            due("none of '" + word + "'", !Pattern.compile("\\b" + word + "(\\b|(?<=\\W))").matcher(code).find());
        }
        due("no lambda, no reference, no arrow", !code.contains("->") && !code.contains("::"));
        due("signs 1 to 127", source.chars().allMatch(c -> c > 0 && c < 128));
        due("no text is joined by +", !code.contains("\" +") && !code.contains("+ \""));
        // What is made is made once: in fields, and in the constructor, which is at the head of the file.
        int made = code.indexOf("textCount = 1;");
        Matcher m = Pattern.compile("(?m)^(.*)\\bnew\\b").matcher(code);
        while (m.find()) {
            due("made once: " + m.group(), m.start() < made || m.group(1).matches("\\s+(private )?final .* = "));
        }
        methodLengths(source);
    }

    private static void methodLengths(String source) {
        String[] lines = source.split("\n");
        int start = -1;
        for (int i = 0; i < lines.length; i++) {
            if (lines[i].matches(" {4,8}[^ }/*@].*\\) \\{")) {
                start = i;
            }
            if (lines[i].matches(" {4}( {4})?\\}") && start >= 0) {
                due("lines of " + lines[start].trim(), i - start < MOST_LINES);
                start = -1;
            }
        }
    }

    public static void main(String[] args) throws Exception {
        String document = Files.readString(Path.of(args[0]));
        String source = Files.readString(Path.of(args[1]));
        face(document);
        classes();
        language(source);
        check.end();
    }
}
