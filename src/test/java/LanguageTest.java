import java.lang.reflect.Constructor;
import java.lang.reflect.Field;
import java.lang.reflect.Method;
import java.lang.reflect.Modifier;
import java.nio.charset.StandardCharsets;
import java.nio.file.Files;
import java.nio.file.Path;
import java.util.Arrays;
import java.util.List;
import java.util.Map;
import java.util.Set;
import java.util.TreeMap;
import java.util.TreeSet;
import java.util.regex.Matcher;
import java.util.regex.Pattern;

/** What LANGUAGE.md rules out, as far as words and the class's own face tell it. */
public final class LanguageTest {
    private static final Set<String> LIBRARY = Set.of("length", "charAt", "isEmpty", "indexOf", "min", "max", "arraycopy");
    private static int wrong = 0;

    private static void must(boolean holds, String what) {
        if (!holds) {
            wrong++;
            System.out.println("not kept: " + what);
        }
    }

    public static void main(String[] args) throws Exception {
        String source = Files.readString(Path.of("src/main/java/OnlyDownhill.java"), StandardCharsets.US_ASCII);
        String code = source.replaceAll("(?s)/\\*.*?\\*/", "").replaceAll("//[^\n]*", "");
        lookAtWords(code);
        lookAtFace();
        lookAtMethods(code);
        lookAtCalls(code);
        System.out.println(wrong == 0 ? "the language is kept" : wrong + " rules are not kept");
        if (wrong != 0) {
            System.exit(1);
        }
    }

    private static void lookAtWords(String code) {
        for (String word : List.of("throw", "throws", "try", "catch", "synchronized", "assert", "package", "import",
            "protected", "volatile", "transient", "native", "Object", "Random", "Thread", "hashCode", "toString",
            "Exact", "lambda", "abstract", "extends", "goto", "double", "float", "nanoTime", "currentTimeMillis")) {
            must(!Pattern.compile("\\b" + word + "\\b").matcher(code).find(), "no " + word);
        }
        must(!code.contains("->") && !code.contains("::"), "no lambda, no method reference");
        must(!code.contains("static {"), "no static initialiser");
        must(!code.contains("while (true)") && !code.contains("for (;;)"), "no loop without an end");
    }

    private static void lookAtFace() throws Exception {
        must(Modifier.isPublic(OnlyDownhill.class.getModifiers()) && Modifier.isFinal(OnlyDownhill.class.getModifiers()),
            "the class is public and final");
        for (Constructor<?> c : OnlyDownhill.class.getDeclaredConstructors()) {
            must(Modifier.isPublic(c.getModifiers()) && c.getParameterCount() == 0, "one public constructor");
        }
        Set<String> face = faceOfDocument();
        Set<String> open = new TreeSet<>();
        Set<String> names = new TreeSet<>();
        for (Method m : OnlyDownhill.class.getDeclaredMethods()) {
            if (!Modifier.isPrivate(m.getModifiers())) {
                open.add(Modifier.toString(m.getModifiers()) + " " + m.getReturnType() + " " + m.getName()
                    + Arrays.toString(m.getParameterTypes()));
                names.add(m.getName());
            }
        }
        must(open.equals(face), "the face is the document's: " + open + " for " + face);
        for (Field f : OnlyDownhill.class.getDeclaredFields()) {
            must(Modifier.isPrivate(f.getModifiers()), "private: " + f.getName());
            must(!Modifier.isStatic(f.getModifiers()) || Modifier.isFinal(f.getModifiers()), "final: " + f.getName());
        }
        must(OnlyDownhill.class.getDeclaredClasses().length <= 11, "twelve classes at most");
        for (Class<?> inside : OnlyDownhill.class.getDeclaredClasses()) {
            must(Modifier.isStatic(inside.getModifiers()), "static: " + inside.getName());
            for (Method m : inside.getDeclaredMethods()) {
                must(!names.contains(m.getName()), "bears a public one's name: " + inside.getName() + "." + m.getName());
                must(m.getParameterCount() <= 7, "seven parameters at most: " + m.getName());
            }
            long fields = Arrays.stream(inside.getDeclaredFields()).filter(f -> !Modifier.isStatic(f.getModifiers())).count();
            must(fields <= 20, "twenty fields at most: " + inside.getName());
        }
        for (Method m : OnlyDownhill.class.getDeclaredMethods()) {
            must(!Modifier.isPrivate(m.getModifiers()) || !names.contains(m.getName()), "a name twice: " + m.getName());
        }
    }

    private static Set<String> faceOfDocument() throws Exception {
        String document = Files.readString(Path.of("../shared/DOC.md"), StandardCharsets.UTF_8);
        Matcher m = Pattern.compile("(?m)^    public (int|long) (\\w+)\\(([^)]*)\\);").matcher(document);
        Set<String> face = new TreeSet<>();
        while (m.find()) {
            int arguments = m.group(3).isEmpty() ? 0 : m.group(3).split(",").length;
            String[] types = new String[arguments];
            Arrays.fill(types, "int");
            face.add("public " + m.group(1) + " " + m.group(2) + Arrays.toString(types));
        }
        must(face.size() == 32, "the document's face has 32 methods: " + face.size());
        return face;
    }

    /** What is called, and how deep calls go, a call of the library as one level; methods of one name are taken as one. */
    private static void lookAtCalls(String code) {
        Map<String, Set<String>> calls = new TreeMap<>();
        Matcher method = Pattern.compile("(?ms)^( {4}| {8})\\w[\\w\\[\\] ]* (\\w+)\\([^=;{]*\\) \\{$(.*?)^\\1\\}$").matcher(
            code.replaceAll("(?m)^    private static final class .*$", ""));
        while (method.find()) {
            Set<String> called = calls.computeIfAbsent(method.group(2), name -> new TreeSet<>());
            Matcher call = Pattern.compile("\\b(\\w+)\\(").matcher(method.group(3));
            while (call.find()) {
                called.add(call.group(1));
            }
        }
        must(calls.size() > 60, "the methods are read: " + calls.size());
        Set<String> foreign = new TreeSet<>();
        calls.values().forEach(foreign::addAll);
        foreign.removeAll(calls.keySet());
        foreign.removeAll(LIBRARY);
        must(foreign.isEmpty(), "of the library only what the class needs and LANGUAGE.md lists: " + foreign);
        for (String name : calls.keySet()) {
            int depth = depthOf(name, calls, 1);
            must(depth <= 8, "calls go eight deep at most: " + name + " goes " + depth);
        }
    }

    /** Recursion would make it deeper than all methods together; it is cut off there. */
    private static int depthOf(String name, Map<String, Set<String>> calls, int level) {
        int deepest = level;
        if (level <= 20) {
            for (String called : calls.getOrDefault(name, Set.of())) {
                deepest = Math.max(deepest, depthOf(called, calls, level + 1));
            }
        }
        return deepest;
    }

    /** A method's lines, told by where a line with its head's indent closes it. */
    private static void lookAtMethods(String code) {
        int begun = -1;
        String end = "";
        String[] lines = code.split("\n");
        for (int i = 0; i < lines.length; i++) {
            Matcher head = Pattern.compile("^( {4}| {8})(?:\\w[\\w\\[\\] ]*) \\w+\\([^=;]*\\) \\{$").matcher(lines[i]);
            if (begun < 0 && head.matches()) {
                begun = i;
                end = head.group(1) + "}";
            } else if (begun >= 0 && lines[i].equals(end)) {
                must(i - begun <= 60, "sixty lines at most: " + lines[begun].trim());
                begun = -1;
            }
        }
    }
}
