import java.math.BigInteger;
import java.util.ArrayList;
import java.util.List;
import java.util.regex.Matcher;
import java.util.regex.Pattern;

/**
 * The document once more, written as slowly and as near to its words as can be: all simple ways are
 * walked, all fractions are exact, nothing is shared with the class under test.
 */
final class NaiveTown {
    record Place(char kind, int slope, int pushers) { }
    record Way(int a, int b, int minutes, int lights) { }
    record Errand(int place, int lasts, int worth, int till) { }
    record Path(List<Integer> over, int minutes, int greatest) { }

    record Fraction(BigInteger above, BigInteger below) {
        static final Fraction ZERO = of(0, 1);
        static final Fraction ONE = of(1, 1);

        static Fraction of(long above, long below) {
            return reduced(BigInteger.valueOf(above), BigInteger.valueOf(below));
        }

        private static Fraction reduced(BigInteger above, BigInteger below) {
            BigInteger g = above.gcd(below);
            return new Fraction(above.divide(g), below.divide(g));
        }

        Fraction plus(Fraction o) {
            return reduced(above.multiply(o.below).add(o.above.multiply(below)), below.multiply(o.below));
        }

        Fraction minus(Fraction o) {
            return plus(new Fraction(o.above.negate(), o.below));
        }

        Fraction times(Fraction o) {
            return reduced(above.multiply(o.above), below.multiply(o.below));
        }

        boolean more(Fraction o) {
            return above.multiply(o.below).compareTo(o.above.multiply(below)) > 0;
        }

        long part(int part) {
            return (part == 0 ? above : below).longValueExact();
        }
    }

    /** What a day is asked under, beside the town: each question changes some of it. */
    static final class Suppose {
        int driver;
        int run;
        int helperAt = -1;
        boolean sureHome;
        boolean sureAll;
    }

    static final class Day {
        int homeAt;
        int done;
        int fuel;
        Fraction likely = Fraction.ONE;
        Fraction worth = Fraction.ZERO;
    }

    /** How STARTS and STALLS fall out. */
    interface Luck {
        boolean starts(int tenths);

        boolean stalls(int tenths);
    }

    private static final Pattern TOWN =
        Pattern.compile("(?:p[pwbhkn][0-9]{2};|w[0-9]{5};|e[0-9]{8};|f[0-9]{3};|d[0-9];)+");

    private List<Place> places = new ArrayList<>();
    private List<Way> ways = new ArrayList<>();
    private List<Errand> errands = new ArrayList<>();
    private int fuel = 1;
    private int run = 10;
    private int driver = 0;
    private StringBuilder letters = new StringBuilder();
    private final List<Integer> row = new ArrayList<>();
    private final int[] refusals = new int[7];
    private NaiveTown image;
    private List<List<Path>> paths = new ArrayList<>();

    private static final class Refused extends Exception {
        private static final long serialVersionUID = 1L;
        final int number;

        Refused(int number) {
            this.number = number;
        }
    }

    private static boolean isLong(String name) {
        return List.of("likely", "worth", "bestLikely", "bestWorth", "hill").contains(name);
    }

    long call(String name, int... a) {
        try {
            return answer(name, a);
        } catch (Refused r) {
            refusals[-r.number]++;
            return isLong(name) ? 4000000000000000000L - r.number : r.number;
        }
    }

    private static void refuse(int number, boolean when) throws Refused {
        if (when) {
            throw new Refused(number);
        }
    }

    private boolean noPlace(int p) {
        return p < 0 || p >= places.size();
    }

    private static boolean notIn(int v, int least, int most) {
        return v < least || v > most;
    }

    private long answer(String name, int[] a) throws Refused {
        switch (name) {
            case "letter":
                refuse(-4, a[0] < 0);
                refuse(-6, a[0] > 255 || letters.length() == 96);
                return letters.append((char) a[0]).length();
            case "town": return town();
            case "place":
                refuse(-1, noPlace(a[0]));
                refuse(-2, notIn(a[1], 0, 4));
                Place p = places.get(a[0]);
                return new int[] {"pwbhkn".indexOf(p.kind), p.slope, p.pushers, starts(p), pushed(p)}[a[1]];
            case "slope":
                refuse(-1, noPlace(a[0]));
                refuse(-4, a[1] < 0);
                refuse(-6, a[1] > 9);
                Place old = places.get(a[0]);
                places.set(a[0], new Place(old.kind, a[1], old.pushers));
                return old.slope;
            case "errand":
                refuse(-1, notIn(a[0], 0, errands.size() - 1));
                refuse(-2, notIn(a[1], 0, 3));
                Errand e = errands.get(a[0]);
                return new int[] {e.place, e.lasts, e.worth, e.till}[a[1]];
            case "set":
                return change(a[0], a[1]);
            case "leg": case "safe":
                refuse(-1, noPlace(a[0]) || noPlace(a[1]));
                refuse(-2, notIn(a[2], 0, 1));
                Path way = name.equals("leg") ? leg(a[0], a[1]) : safe(a[0], a[1]);
                return way == null ? -9 : a[2] == 0 ? way.minutes : way.greatest;
            case "onFoot": return onFoot(a[0], a[1], a[2]);
            case "onTheWay": return onTheWay(a[0], a[1], a[2]);
            case "row":
                refuse(-4, a[0] < 0);
                refuse(-6, a[0] > 9 || row.size() == 10);
                row.add(a[0]);
                return row.size();
            case "clear":
                int had = row.size();
                row.clear();
                return had;
            case "image":
                image = new NaiveTown();
                image.takeFrom(this);
                return places.size();
            case "on":
                refuse(-3, image == null);
                takeFrom(image);
                return places.size();
            case "count": return count(a[0]);
            default: return ofDays(name, a);
        }
    }

    private long ofDays(String name, int[] a) throws Refused {
        switch (name) {
            case "day": case "best": case "bestMinutes":
                refuse(-2, notIn(a[0], 0, 2));
                break;
            case "likely": case "worth": case "hill":
                refuse(-2, notIn(a[0], 0, 1));
                break;
            case "bestLikely": case "bestWorth":
                refuse(-2, notIn(a[0], 0, 2) || notIn(a[1], 0, 1));
                break;
            case "mend":
                refuse(-4, a[0] < 0 || a[1] < 1);
                refuse(-6, a[0] > 999 || a[1] > 99);
                break;
            case "mendFrom":
                refuse(-4, a[0] < 0);
                refuse(-6, a[0] > 999);
                break;
            case "lots":
                refuse(-4, a[0] < 1);
                refuse(-6, a[0] > 20);
                break;
            default:
        }
        refuse(-3, places.isEmpty());
        Day d = dayOf(ofRow(-1), now());
        switch (name) {
            case "day": return a[0] == 0 ? d.homeAt : a[0] == 1 ? d.done : d.fuel;
            case "likely": return d.likely.part(a[0]);
            case "worth": return d.worth.part(a[0]);
            case "best":
                refuse(-1, notIn(a[1], 0, errands.size() - 1));
                return bestBy(a[0]).get(a[1]);
            case "bestMinutes": return dayOf(bestBy(a[0]), now()).homeAt;
            case "bestLikely": return dayOf(bestBy(a[0]), now()).likely.part(a[1]);
            case "bestWorth": return dayOf(bestBy(a[0]), now()).worth.part(a[1]);
            case "sure": return sure();
            case "bestDriver": return bestDriver();
            case "leftOut": return leftOut();
            case "runOn": return runOn();
            case "push": return push();
            case "hill": {
                Suppose s = now();
                s.sureHome = true;
                return dayOf(ofRow(-1), s).worth.minus(d.worth).part(a[0]);
            }
            case "mend": return mended(a[0], a[1]) ? 1 : 0;
            case "mendFrom":
                for (int n = 1; n <= 99; n++) {
                    if (mended(a[0], n)) {
                        return n;
                    }
                }
                return -9;
            case "judge": return judge(d);
            case "lots": return lots(a[0], a[1]);
            default: throw new IllegalArgumentException(name);
        }
    }

    private long town() {
        String text = letters.toString();
        letters = new StringBuilder();
        for (int k = 0; k <= text.length(); k++) {
            Matcher m = TOWN.matcher(text.substring(0, k));
            if (!m.matches() && !m.hitEnd()) {
                return -1000 - (k - 1);
            }
        }
        if (!TOWN.matcher(text).matches()) {
            return -1000 - text.length();
        }
        NaiveTown next = new NaiveTown();
        next.takeFrom(this);
        int at = 0;
        String[] statements = text.split(";");
        for (String s : statements) {
            if (!next.tell(s)) {
                return -2000 - at;
            }
            at += s.length() + 1;
        }
        takeFrom(next);
        return statements.length;
    }

    private static int number(String s, int from, int to) {
        return Integer.parseInt(s.substring(from, to));
    }

    private boolean tell(String s) {
        switch (s.charAt(0)) {
            case 'p':
                places.add(new Place(s.charAt(1), number(s, 2, 3), number(s, 3, 4)));
                return places.size() <= 8 && number(s, 3, 4) <= 3;
            case 'w': {
                Way w = new Way(number(s, 1, 2), number(s, 2, 3), number(s, 3, 5), number(s, 5, 6));
                boolean there = ways.stream().anyMatch(o -> o.a == w.a && o.b == w.b || o.a == w.b && o.b == w.a);
                ways.add(w);
                return !there && ways.size() <= 14 && !noPlace(w.a) && !noPlace(w.b) && w.a != w.b
                    && !notIn(w.minutes, 1, 60);
            }
            case 'e': {
                Errand e = new Errand(number(s, 1, 2), number(s, 2, 4), number(s, 4, 6), number(s, 6, 9));
                errands.add(e);
                return errands.size() <= 5 && !noPlace(e.place) && !notIn(e.lasts, 1, 60);
            }
            case 'f':
                fuel = number(s, 1, 2);
                run = number(s, 2, 4);
                return run <= 60;
            default:
                driver = number(s, 1, 2);
                return driver <= 5;
        }
    }

    private void takeFrom(NaiveTown o) {
        places = new ArrayList<>(o.places);
        ways = new ArrayList<>(o.ways);
        errands = new ArrayList<>(o.errands);
        fuel = o.fuel;
        run = o.run;
        driver = o.driver;
        paths = new ArrayList<>();
        for (int i = 0; i < 64; i++) {
            List<Path> found = new ArrayList<>();
            if (i / 8 < places.size() && i % 8 < places.size()) {
                walk(new ArrayList<>(List.of(i / 8)), i % 8, 0, 0, found);
            }
            paths.add(found);
        }
    }

    private void walk(List<Integer> over, int to, int minutes, int greatest, List<Path> found) {
        int at = over.get(over.size() - 1);
        if (at == to) {
            found.add(new Path(new ArrayList<>(over), minutes, greatest));
            return;
        }
        for (Way w : ways) {
            int next = w.a == at ? w.b : w.b == at ? w.a : -1;
            if (next >= 0 && !over.contains(next)) {
                over.add(next);
                walk(over, to, minutes + w.minutes, Math.max(greatest, w.lights), found);
                over.remove(over.size() - 1);
            }
        }
    }

    private Path leg(int from, int to) {
        Path best = null;
        for (Path p : paths.get(8 * from + to)) {
            if (best == null || 10 * p.minutes + p.greatest < 10 * best.minutes + best.greatest) {
                best = p;
            }
        }
        return best;
    }

    private Path safe(int from, int to) {
        Path best = null;
        for (Path p : paths.get(8 * from + to)) {
            if (best == null || 1000 * p.greatest + p.minutes < 1000 * best.greatest + best.minutes) {
                best = p;
            }
        }
        return best;
    }

    private int change(int what, int v) throws Refused {
        refuse(-2, notIn(what, 0, 2));
        refuse(-4, v < 0);
        refuse(-6, v > new int[] {9, 60, 5}[what]);
        int was = new int[] {fuel, run, driver}[what];
        fuel = what == 0 ? v : fuel;
        run = what == 1 ? v : run;
        driver = what == 2 ? v : driver;
        return was;
    }

    private int count(int what) {
        switch (what) {
            case 0: return places.size();
            case 1: return ways.size();
            case 2: return errands.size();
            case 3: return fuel;
            case 4: return run;
            case 5: return driver;
            case 6: return errands.stream().mapToInt(Errand::worth).sum();
            case 7: return row.size();
            case 8: return letters.length();
            default: return what > 10 && what < 17 ? refusals[what - 10] : -9;
        }
    }

    private static int starts(Place p) {
        return startsAs(p.kind, p);
    }

    private static int startsAs(char kind, Place p) {
        switch (kind) {
            case 'p': return p.slope >= 5 ? 10 : p.slope + p.slope;
            case 'w': return Math.max(0, startsAs('p', p) - 2);
            case 'b': return Math.min(10, startsAs('p', p) + 1);
            case 'h': return p.slope > 0 ? 10 : startsAs('b', p);
            case 'k': return startsAs('w', p) / 2;
            default: {
                int less = p.pushers == 0 ? 6 : p.pushers == 1 ? 3 : 0;
                return Math.max(0, startsAs('b', p) - less);
            }
        }
    }

    private static int pushed(Place p) {
        return Math.min(10, starts(p) + 2 * p.pushers);
    }

    private Suppose now() {
        Suppose s = new Suppose();
        s.driver = driver;
        s.run = run;
        return s;
    }

    private Place supposed(int place, Suppose s) {
        Place p = places.get(place);
        return place == s.helperAt ? new Place(p.kind, p.slope, Math.min(3, p.pushers + 1)) : p;
    }

    private int startsIn(int place, Suppose s) {
        return s.sureAll || s.sureHome && place == 0 ? 10 : starts(supposed(place, s));
    }

    private int tenthsIn(int place, Suppose s) {
        int starts = startsIn(place, s);
        return s.driver == 3 ? Math.min(10, starts + 2 * supposed(place, s).pushers) : starts;
    }

    private Path pathFor(int from, int to, Suppose s) {
        return s.driver == 5 ? safe(from, to) : leg(from, to);
    }

    private boolean keepsRunning(Errand e, Suppose s) {
        boolean wants = s.driver == 1 || s.driver == 2 && startsIn(e.place, s) < 10;
        return wants && e.lasts <= s.run;
    }

    private boolean leavesOut(int from, Errand e, Suppose s) {
        return s.driver >= 4 && startsIn(e.place, s) < 10 || pathFor(from, e.place, s) == null;
    }

    private Day dayOf(List<Integer> order, Suppose s) {
        Day d = new Day();
        d.likely = Fraction.of(tenthsIn(0, s), 10);
        int at = 0;
        for (int i : order) {
            Errand e = errands.get(i);
            if (leavesOut(at, e, s)) {
                continue;
            }
            Path p = pathFor(at, e.place, s);
            at = e.place;
            d.homeAt += p.minutes;
            d.likely = d.likely.times(Fraction.of(10 - p.greatest, 10));
            if (d.homeAt <= e.till) {
                d.done |= 1 << i;
                d.homeAt += e.lasts;
                d.worth = d.worth.plus(d.likely.times(Fraction.of(e.worth, 1)));
                if (keepsRunning(e, s)) {
                    d.fuel += fuel * e.lasts;
                    d.worth = d.worth.minus(d.likely.times(Fraction.of((long) fuel * e.lasts, 1)));
                } else {
                    d.likely = d.likely.times(Fraction.of(tenthsIn(at, s), 10));
                }
            }
        }
        Path back = pathFor(at, 0, s);
        d.homeAt += back.minutes;
        d.likely = d.likely.times(Fraction.of(10 - back.greatest, 10));
        return d;
    }

    private List<Integer> ofRow(int without) {
        List<Integer> order = new ArrayList<>();
        for (int v : row) {
            if (v < errands.size() && v != without && !order.contains(v)) {
                order.add(v);
            }
        }
        return order;
    }

    private void orders(List<Integer> begun, List<List<Integer>> all) {
        if (begun.size() == errands.size()) {
            all.add(new ArrayList<>(begun));
        }
        for (int i = 0; i < errands.size(); i++) {
            if (!begun.contains(i)) {
                begun.add(i);
                orders(begun, all);
                begun.remove(begun.size() - 1);
            }
        }
    }

    private List<Integer> bestBy(int by) {
        List<List<Integer>> all = new ArrayList<>();
        orders(new ArrayList<>(), all);
        List<Integer> best = null;
        Day bestDay = null;
        for (List<Integer> order : all) {
            Day d = dayOf(order, now());
            if (best == null || by == 0 && d.homeAt < bestDay.homeAt || by == 1 && d.likely.more(bestDay.likely)
                || by == 2 && d.worth.more(bestDay.worth)) {
                best = order;
                bestDay = d;
            }
        }
        return best;
    }

    private int sure() {
        int bits = 0;
        for (int i = 0; i < errands.size(); i++) {
            Day d = dayOf(List.of(i), now());
            if (d.done == 1 << i && d.likely.equals(Fraction.ONE)) {
                bits += 1 << i;
            }
        }
        return bits;
    }

    private int bestDriver() {
        int best = 0;
        Fraction most = null;
        for (int kind = 0; kind < 6; kind++) {
            Suppose s = now();
            s.driver = kind;
            Fraction worth = dayOf(ofRow(-1), s).worth;
            if (most == null || worth.more(most)) {
                most = worth;
                best = kind;
            }
        }
        return best;
    }

    private int leftOut() {
        int best = -9;
        Fraction most = dayOf(ofRow(-1), now()).worth;
        for (int v : ofRow(-1)) {
            Fraction worth = dayOf(ofRow(v), now()).worth;
            if (worth.more(most)) {
                most = worth;
                best = v;
            }
        }
        return best;
    }

    private int runOn() {
        int best = -1;
        Fraction most = null;
        for (int r = 60; r >= 0; r--) {
            Suppose s = now();
            s.driver = 1;
            s.run = r;
            Fraction worth = dayOf(ofRow(-1), s).worth;
            if (most == null || !most.more(worth)) {
                most = worth;
                best = r;
            }
        }
        return best;
    }

    private int push() {
        Suppose s = now();
        s.driver = 3;
        Fraction most = dayOf(ofRow(-1), s).worth;
        int best = -9;
        for (int place = 0; place < places.size(); place++) {
            s.helperAt = place;
            Fraction worth = dayOf(ofRow(-1), s).worth;
            if (worth.more(most)) {
                most = worth;
                best = place;
            }
        }
        return best;
    }

    private boolean mended(int m, int n) {
        Suppose s = now();
        s.sureAll = true;
        Fraction gain = dayOf(ofRow(-1), s).worth.minus(dayOf(ofRow(-1), now()).worth);
        return !Fraction.of(m, 1).more(gain.times(Fraction.of(n, 1)));
    }

    private int onFoot(int one, int other, int what) throws Refused {
        refuse(-1, noPlace(one) || noPlace(other));
        refuse(-2, notIn(what, 0, 1));
        int best = -9;
        int least = -9;
        for (int p = 0; p < places.size(); p++) {
            if (starts(places.get(p)) != 10 || leg(p, one) == null || leg(p, other) == null) {
                continue;
            }
            int there = leg(p, one).minutes + leg(p, other).minutes;
            int back = leg(one, p).minutes + leg(other, p).minutes;
            if (best < 0 || 5 * (there + back) < least) {
                best = p;
                least = 5 * (there + back);
            }
        }
        return what == 0 ? best : least;
    }

    private int onTheWay(int place, int from, int to) throws Refused {
        refuse(-1, noPlace(place) || noPlace(from) || noPlace(to));
        Path quickest = leg(from, to);
        for (Path p : paths.get(8 * from + to)) {
            if (p.minutes == quickest.minutes && p.over.contains(place)) {
                return 1;
            }
        }
        return 0;
    }

    private int judge(Day d) {
        for (int i = 0; i < row.size(); i++) {
            int v = row.get(i);
            if (v >= errands.size() || (d.done >> v) % 2 == 0 || row.indexOf(v) < i) {
                return i;
            }
        }
        return -9;
    }

    private int lots(int n, int seed) {
        int[] z = {seed};
        Luck luck = new Luck() {
            private int draw() {
                z[0] = (int) ((z[0] * 1664525L + 1013904223L) & 0xffffffffL);
                long positive = z[0] < 0 ? z[0] + (1L << 31) : z[0];
                return (int) ((positive >> 8) % 10);
            }

            @Override
            public boolean starts(int tenths) {
                return tenths == 10 || tenths != 0 && draw() < tenths;
            }

            @Override
            public boolean stalls(int tenths) {
                return tenths != 0 && draw() < tenths;
            }
        };
        int home = 0;
        for (int i = 0; i < n; i++) {
            home += comesHome(luck) ? 1 : 0;
        }
        return home;
    }

    private boolean comesHome(Luck luck) {
        Suppose s = now();
        int at = 0;
        int minute = 0;
        if (!luck.starts(tenthsIn(0, s))) {
            return false;
        }
        for (int i : ofRow(-1)) {
            Errand e = errands.get(i);
            if (leavesOut(at, e, s)) {
                continue;
            }
            Path p = pathFor(at, e.place, s);
            if (luck.stalls(p.greatest)) {
                return false;
            }
            minute += p.minutes;
            at = e.place;
            if (minute > e.till) {
                continue;
            }
            minute += e.lasts;
            if (!keepsRunning(e, s) && !luck.starts(tenthsIn(at, s))) {
                return false;
            }
        }
        return !luck.stalls(pathFor(at, 0, s).greatest);
    }
}
