import java.lang.reflect.Constructor;
import java.lang.reflect.Field;
import java.lang.reflect.Method;
import java.lang.reflect.Modifier;
import java.nio.charset.StandardCharsets;
import java.nio.file.Files;
import java.nio.file.Path;
import java.util.Arrays;
import java.util.List;
import java.util.Set;
import java.util.TreeSet;
import java.util.regex.Matcher;
import java.util.regex.Pattern;

/** What LANGUAGE.md rules out, as far as words and the class's own face tell it. */
public final class LanguageTest {
    private static int wrong = 0;

    private static void must(boolean holds, String what) {
        if (!holds) {
            wrong++;
            System.out.println("not kept: " + what);
        }
    }

    public static void main(String[] args) throws Exception {
        String source = Files.readString(Path.of("src/main/java/OnlyDownhill.java"), StandardCharsets.US_ASCII);
        String code = source.replaceAll("(?s)/\\*.*?\\*/", "").replaceAll("//[^\n]*", "");
        lookAtWords(code);
        lookAtFace();
        lookAtMethods(code);
        System.out.println(wrong == 0 ? "the language is kept" : wrong + " rules are not kept");
        if (wrong != 0) {
            System.exit(1);
        }
    }

    private static void lookAtWords(String code) {
        for (String word : List.of("throw", "throws", "try", "catch", "synchronized", "assert", "package", "import",
            "protected", "volatile", "transient", "native", "Object", "Random", "Thread", "hashCode", "toString",
            "Exact", "lambda", "abstract", "extends", "goto", "double", "float", "nanoTime", "currentTimeMillis")) {
            must(!Pattern.compile("\\b" + word + "\\b").matcher(code).find(), "no " + word);
        }
        must(!code.contains("->") && !code.contains("::"), "no lambda, no method reference");
        must(!code.contains("static {"), "no static initialiser");
        must(!code.contains("while (true)") && !code.contains("for (;;)"), "no loop without an end");
    }

    private static void lookAtFace() throws Exception {
        must(Modifier.isPublic(OnlyDownhill.class.getModifiers()) && Modifier.isFinal(OnlyDownhill.class.getModifiers()),
            "the class is public and final");
        for (Constructor<?> c : OnlyDownhill.class.getDeclaredConstructors()) {
            must(Modifier.isPublic(c.getModifiers()) && c.getParameterCount() == 0, "one public constructor");
        }
        Set<String> face = faceOfDocument();
        Set<String> open = new TreeSet<>();
        Set<String> names = new TreeSet<>();
        for (Method m : OnlyDownhill.class.getDeclaredMethods()) {
            if (!Modifier.isPrivate(m.getModifiers())) {
                open.add(Modifier.toString(m.getModifiers()) + " " + m.getReturnType() + " " + m.getName()
                    + Arrays.toString(m.getParameterTypes()));
                names.add(m.getName());
            }
        }
        must(open.equals(face), "the face is the document's: " + open + " for " + face);
        for (Field f : OnlyDownhill.class.getDeclaredFields()) {
            must(Modifier.isPrivate(f.getModifiers()), "private: " + f.getName());
            must(!Modifier.isStatic(f.getModifiers()) || Modifier.isFinal(f.getModifiers()), "final: " + f.getName());
        }
        must(OnlyDownhill.class.getDeclaredClasses().length <= 11, "twelve classes at most");
        for (Class<?> inside : OnlyDownhill.class.getDeclaredClasses()) {
            must(Modifier.isStatic(inside.getModifiers()), "static: " + inside.getName());
            for (Method m : inside.getDeclaredMethods()) {
                must(!names.contains(m.getName()), "bears a public one's name: " + inside.getName() + "." + m.getName());
                must(m.getParameterCount() <= 7, "seven parameters at most: " + m.getName());
            }
            long fields = Arrays.stream(inside.getDeclaredFields()).filter(f -> !Modifier.isStatic(f.getModifiers())).count();
            must(fields <= 20, "twenty fields at most: " + inside.getName());
        }
        for (Method m : OnlyDownhill.class.getDeclaredMethods()) {
            must(!Modifier.isPrivate(m.getModifiers()) || !names.contains(m.getName()), "a name twice: " + m.getName());
        }
    }

    private static Set<String> faceOfDocument() throws Exception {
        String document = Files.readString(Path.of("../shared/DOC.md"), StandardCharsets.UTF_8);
        Matcher m = Pattern.compile("(?m)^    public (int|long) (\\w+)\\(([^)]*)\\);").matcher(document);
        Set<String> face = new TreeSet<>();
        while (m.find()) {
            int arguments = m.group(3).isEmpty() ? 0 : m.group(3).split(",").length;
            String[] types = new String[arguments];
            Arrays.fill(types, "int");
            face.add("public " + m.group(1) + " " + m.group(2) + Arrays.toString(types));
        }
        must(face.size() == 32, "the document's face has 32 methods: " + face.size());
        return face;
    }

    /** A method's lines, told by where a line with its head's indent closes it. */
    private static void lookAtMethods(String code) {
        int begun = -1;
        String end = "";
        String[] lines = code.split("\n");
        for (int i = 0; i < lines.length; i++) {
            Matcher head = Pattern.compile("^( {4}| {8})(?:\\w[\\w\\[\\] ]*) \\w+\\([^=;]*\\) \\{$").matcher(lines[i]);
            if (begun < 0 && head.matches()) {
                begun = i;
                end = head.group(1) + "}";
            } else if (begun >= 0 && lines[i].equals(end)) {
                must(i - begun <= 60, "sixty lines at most: " + lines[begun].trim());
                begun = -1;
            }
        }
    }
}
