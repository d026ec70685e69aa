import java.nio.charset.StandardCharsets;
import java.nio.file.Files;
import java.nio.file.Path;
import java.util.Set;
import java.util.TreeSet;
import java.util.regex.Matcher;
import java.util.regex.Pattern;

/** Makes the calls that README.md tells, and looks for the answers that stand behind them. */
public final class ReadmeTest {
    /** What later calls answer is free. */
    private static final int MOST_CALLS = 512;
    private static final Pattern NEW = Pattern.compile("OnlyDownhill x = new OnlyDownhill\\(\\);");
    private static final Pattern SPELT =
        Pattern.compile("for \\(char c : \"([^\"]*)\"\\.toCharArray\\(\\)\\) x\\.letter\\(c\\);");
    private static final Pattern CALL = Pattern.compile("x\\.(\\w+)\\(([^)]*)\\); +// (-?\\d+)\\b.*");

    private static int wrong = 0;
    private static int asked = 0;
    private static int calls = 0;
    private static Caller caller = null;
    private static final Set<String> CALLED = new TreeSet<>();

    public static void main(String[] args) throws Exception {
        String readme = Files.readString(Path.of("README.md"), StandardCharsets.UTF_8);
        Matcher block = Pattern.compile("(?s)```java\n(.*?)```").matcher(readme);
        while (block.find()) {
            for (String line : block.group(1).split("\n")) {
                follow(line.trim());
            }
        }
        lookWhatLacks();
        System.out.println(asked + " answers of README.md looked at, " + wrong + " are not as due");
        if (wrong != 0 || asked == 0) {
            System.exit(1);
        }
    }

    private static void follow(String line) {
        Matcher spelt = SPELT.matcher(line);
        Matcher call = CALL.matcher(line);
        if (NEW.matcher(line).matches()) {
            caller = new Caller();
            calls = 0;
        } else if (caller == null) {
            fault("no object yet: " + line);
        } else if (spelt.matches()) {
            for (char c : spelt.group(1).toCharArray()) {
                ask("letter", c);
            }
        } else if (call.matches()) {
            due(line, call.group(1), call.group(2), Long.parseLong(call.group(3)));
        } else if (!line.isEmpty()) {
            fault("this line can not be read: " + line);
        }
    }

    private static void due(String line, String name, String told, long want) {
        String[] words = told.isEmpty() ? new String[0] : told.split(", ");
        int[] arguments = new int[words.length];
        for (int i = 0; i < words.length; i++) {
            boolean isSign = words[i].matches("'.'");
            arguments[i] = isSign ? words[i].charAt(1) : Integer.parseInt(words[i]);
        }
        if (Caller.arguments(name) != arguments.length) {
            fault("the class has no such call: " + line);
            return;
        }
        long got = ask(name, arguments);
        asked++;
        if (got != want) {
            fault(line + " answered " + got);
        }
    }

    private static long ask(String name, int... arguments) {
        CALLED.add(name);
        calls++;
        if (calls > MOST_CALLS) {
            fault("more than " + MOST_CALLS + " calls of one object");
        }
        return caller.call(name, arguments);
    }

    private static void lookWhatLacks() throws Exception {
        String document = Files.readString(Path.of("../shared/DOC.md"), StandardCharsets.UTF_8);
        Matcher face = Pattern.compile("(?m)^    public (?:int|long) (\\w+)\\(").matcher(document);
        while (face.find()) {
            if (!CALLED.contains(face.group(1))) {
                fault("README.md tells no call of " + face.group(1));
            }
        }
    }

    private static void fault(String what) {
        wrong++;
        System.out.println(what);
    }
}
