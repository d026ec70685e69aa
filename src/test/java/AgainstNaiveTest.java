import java.util.ArrayDeque;
import java.util.Random;

/** Random runs of 512 calls: the class and NaiveTown must answer alike. Seeds are fixed, so a run is always the same. */
public final class AgainstNaiveTest {
    private static final int CALLS = 512;
    private static final String[] QUESTIONS = {
        "place", "errand", "leg", "safe", "day", "day", "likely", "likely", "worth", "worth", "best", "bestMinutes",
        "bestLikely", "bestWorth", "sure", "bestDriver", "leftOut", "runOn", "push", "hill", "mend", "mendFrom",
        "onFoot", "onTheWay", "judge", "lots", "count"};

    private static final int[] EXTREMES = {Integer.MIN_VALUE, Integer.MAX_VALUE, -1, 1 << 30, -(1 << 30), 64, 1000};

    private final Random random;
    private final Caller caller = new Caller();
    private final NaiveTown naive = new NaiveTown();
    private final StringBuilder log = new StringBuilder();
    private int calls = 0;
    private int wrong = 0;

    private AgainstNaiveTest(long seed) {
        random = new Random(seed);
    }

    public static void main(String[] args) {
        int runs = args.length > 0 ? Integer.parseInt(args[0]) : 120;
        int wrong = 0;
        int calls = 0;
        for (int seed = 0; seed < runs && wrong < 10; seed++) {
            AgainstNaiveTest test = new AgainstNaiveTest(seed);
            test.run();
            calls += test.calls;
            if (test.wrong > 0) {
                System.out.println("seed " + seed + ": " + test.log);
            }
            wrong += test.wrong;
        }
        System.out.println(calls + " calls against the naive town, " + wrong + " answered otherwise");
        if (wrong != 0 || calls == 0) {
            System.exit(1);
        }
    }

    private void ask(String name, int... a) {
        if (calls >= CALLS || wrong > 0) {
            return;
        }
        calls++;
        StringBuilder told = new StringBuilder(name).append('(');
        for (int i = 0; i < a.length; i++) {
            told.append(i > 0 ? ", " : "").append(a[i]);
        }
        log.append(told).append(") ");
        long want = naive.call(name, a);
        long got = caller.call(name, a);
        if (got != want) {
            wrong++;
            log.append("answered ").append(got).append(", due is ").append(want);
        }
    }

    private int below(int n) {
        return random.nextInt(n);
    }

    private boolean oneIn(int n) {
        return below(n) == 0;
    }

    private void tell(String text) {
        for (char c : text.toCharArray()) {
            ask("letter", c);
        }
        ask("town");
    }

    private void run() {
        int places = oneIn(5) ? 1 + below(2) : 3 + below(6);
        tell(townOfPlaces(places));
        tell(townOfWays(places, 13));
        if (oneIn(2)) {
            tell(townOfWays(places, 6));
        }
        tell(townOfErrands(places, 1 + below(5)));
        while (calls < CALLS && wrong == 0) {
            if (oneIn(90)) {
                tell(wildText());
            } else if (oneIn(6)) {
                change(places);
            } else {
                question(places);
            }
        }
    }

    private String townOfPlaces(int places) {
        StringBuilder text = new StringBuilder();
        boolean steep = oneIn(3);
        for (int i = 0; i < places; i++) {
            int slope = steep ? 5 + below(5) : below(10);
            text.append('p').append("pwbhkn".charAt(below(6))).append(slope).append(below(4)).append(';');
        }
        return text.toString();
    }

    private String townOfWays(int places, int most) {
        StringBuilder text = new StringBuilder();
        int shortest = oneIn(2) ? 3 : 20;
        for (int i = 0; i < most && places > 1; i++) {
            int a = below(places);
            int b = (a + 1 + below(places - 1)) % places;
            boolean there = text.indexOf("w" + a + b) >= 0 || text.indexOf("w" + b + a) >= 0;
            if (!there || oneIn(30)) {
                int lights = oneIn(3) ? 0 : below(10);
                text.append(String.format("w%d%d%02d%d;", a, b, 1 + below(shortest), lights));
            }
        }
        return text.toString();
    }

    private String townOfErrands(int places, int errands) {
        StringBuilder text = new StringBuilder();
        for (int i = 0; i < errands; i++) {
            text.append(String.format("e%d%02d%02d%03d;", below(places), 1 + below(25), below(100),
                oneIn(3) ? below(60) : below(1000)));
        }
        if (oneIn(2)) {
            text.append(String.format("f%d%02d;", below(10), below(61)));
        }
        if (oneIn(2)) {
            text.append("d").append(below(6)).append(';');
        }
        return text.toString();
    }

    private String wildText() {
        ArrayDeque<String> parts = new ArrayDeque<>();
        for (int i = below(5); i >= 0; i--) {
            switch (below(5)) {
                case 0: parts.add("p" + "pwbhkn".charAt(below(6)) + below(10) + below(oneIn(6) ? 10 : 4) + ";"); break;
                case 1: parts.add(String.format("w%d%d%02d%d;", below(10), below(9), below(70), below(10))); break;
                case 2: parts.add(String.format("e%d%02d%02d%03d;", below(8), below(66), below(100), below(1000))); break;
                case 3: parts.add(String.format("f%d%02d;", below(10), below(70))); break;
                default: parts.add("d" + below(8) + ";");
            }
        }
        StringBuilder text = new StringBuilder(String.join("", parts));
        if (oneIn(3) && text.length() > 0) {
            text.setCharAt(below(text.length()), (char) (oneIn(2) ? below(256) : "pwefd;059".charAt(below(9))));
        }
        if (oneIn(4)) {
            text.setLength(below(text.length() + 1));
        }
        return text.toString();
    }

    private void change(int places) {
        switch (below(8)) {
            case 0: case 1: ask("slope", below(places + 1), below(12) - 1); break;
            case 2: case 3: ask("set", oneIn(9) ? below(5) - 1 : 2, below(8) - 1); break;
            case 4: ask("set", below(2), below(65) - 2); break;
            case 5: ask(oneIn(3) ? "image" : "on"); break;
            case 6: ask("row", below(12) - 1); break;
            default:
                ask("clear");
                for (int i = below(12); i >= 0; i--) {
                    ask("row", oneIn(12) ? below(12) - 1 : below(5));
                }
        }
    }

    private void question(int places) {
        String name = QUESTIONS[below(QUESTIONS.length)];
        int[] a = new int[Caller.arguments(name)];
        for (int i = 0; i < a.length; i++) {
            a[i] = oneIn(25) ? below(30) - 8 : below(i == 0 || a.length == 3 && i == 1 ? Math.max(2, places) : 2);
        }
        switch (name) {
            case "best": case "bestMinutes": case "bestLikely": case "bestWorth": case "day":
                a[0] = oneIn(25) ? a[0] : below(3);
                break;
            case "onTheWay": a[2] = below(places); break;
            case "place": case "errand": a[1] = below(6) - (oneIn(9) ? 1 : 0); break;
            case "likely": case "worth": case "hill": a[0] = oneIn(25) ? a[0] : below(2); break;
            case "mend": a[0] = below(1010) - 2; a[1] = below(103) - 1; break;
            case "mendFrom": a[0] = oneIn(2) ? below(60) : below(1010) - 2; break;
            case "lots": a[0] = below(23) - 1; a[1] = random.nextInt(); break;
            case "count": a[0] = below(20) - 1; break;
            default:
        }
        if (a.length > 0 && oneIn(30)) {
            a[below(a.length)] = EXTREMES[below(EXTREMES.length)];
        }
        ask(name, a);
    }
}
