import java.util.Arrays;
import java.util.LinkedHashSet;
import java.util.Map;
import java.util.Set;
import java.util.TreeMap;

/** A sentence of the document, quoted, and the calls on one new object that stand for it. */
final class About {
    /** What stands for a promise's number where the sentence is one of "What it is" or "Terms". */
    static final int TERMS = 0;
    static final long LONG_OTHER = 4000000000000000002L;
    static final long LONG_STATE = 4000000000000000003L;
    /** What later calls answer is free, so no test may look at it. */
    private static final int MOST_CALLS = 512;
    private static final int MOST_TOLD = 60;

    private static final Map<Integer, Set<String>> QUOTED = new TreeMap<>();
    private static int objects = 0;
    private static int asked = 0;
    private static int wrong = 0;

    private final int promise;
    private final String sentence;
    private final Caller caller = new Caller();
    private int calls = 0;

    /** Each of the towns must come without FAULT. */
    About(int promise, String sentence, String... towns) {
        this.promise = promise;
        this.sentence = sentence;
        objects++;
        QUOTED.computeIfAbsent(promise, p -> new LinkedHashSet<>()).add(sentence);
        for (String town : towns) {
            town(town, town.chars().filter(c -> c == ';').count());
        }
    }

    /** A call told as "name argument argument". */
    long ask(String told) {
        String[] words = told.split(" ");
        int[] arguments = new int[words.length - 1];
        for (int i = 0; i < arguments.length; i++) {
            arguments[i] = Integer.parseInt(words[i + 1]);
        }
        calls++;
        if (calls > MOST_CALLS) {
            fault("the test makes more than " + MOST_CALLS + " calls");
        }
        return caller.call(words[0], arguments);
    }

    void due(String told, long want) {
        long got = ask(told);
        asked++;
        if (got != want) {
            fault(told + " answered " + got + ", due is " + want);
        }
    }

    void dueFraction(String told, long above, long below) {
        due(told + " 0", above);
        due(told + " 1", below);
    }

    void spell(String text) {
        for (char c : text.toCharArray()) {
            ask("letter " + (int) c);
        }
    }

    void town(String text, long want) {
        spell(text);
        long got = ask("town");
        asked++;
        if (got != want) {
            fault("town of " + text + " answered " + got + ", due is " + want);
        }
    }

    void rowOf(int... numbers) {
        ask("clear");
        for (int number : numbers) {
            ask("row " + number);
        }
    }

    void dueAlike(String what, long[] got, long[] want) {
        asked++;
        if (!Arrays.equals(got, want)) {
            fault(what + ": " + Arrays.toString(got) + ", due is " + Arrays.toString(want));
        }
    }

    private void fault(String what) {
        wrong++;
        if (wrong <= MOST_TOLD) {
            System.out.println((promise == TERMS ? "terms" : "promise " + promise) + ", \"" + sentence + "\": " + what);
        }
    }

    static Set<String> quotesOf(int promise) {
        return QUOTED.getOrDefault(promise, Set.of());
    }

    static void noteWrong(String what) {
        wrong++;
        System.out.println(what);
    }

    static void endWithCount() {
        System.out.println(objects + " objects, " + asked + " answers looked at, " + wrong + " are not as due");
        if (wrong != 0 || asked == 0) {
            System.exit(1);
        }
    }
}
