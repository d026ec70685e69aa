/** Parked only downhill: a town, a car that starts on slopes, and the errands of a day. */
public final class OnlyDownhill {
    private static final int MOST_PLACES = 8;
    private static final int MOST_WAYS = 14;
    private static final int MOST_ERRANDS = 5;
    private static final int MOST_LETTERS = 96;
    private static final int MOST_IN_ROW = 10;
    private static final int MOST_RUN = 60;
    private static final int MOST_DAYS = 99;
    private static final int MOST_PRICE = 999;
    private static final int MOST_LOTS = 20;
    private static final int MOST_ORDERS = 120;
    private static final int HOME = 0;

    private static final int NOBODY = -1;
    private static final int OTHER = -2;
    private static final int STATE = -3;
    private static final int BELOW = -4;
    private static final int ROOM = -6;
    private static final int NONE = -9;
    private static final long LONG_REFUSAL = 4000000000000000000L;

    private static final int RUNNER = 1;
    private static final int CAREFUL = 2;
    private static final int PUSHER = 3;
    private static final int SLOPER = 4;
    private static final int SAFE_ONE = 5;

    /** A day has at most this many STARTS and STALLS: one at HOME, two an ERRAND, one on the LEG HOME. */
    private static final int MOST_CHANCES = 12;
    /** What is certain, in the unit of all likelihoods: ten to the MOST_CHANCES, so that no tenth is ever cut. */
    private static final long CERTAIN = 1000000000000L;

    /** Holds the town that it goes through, so that nothing half made is handed to it. */
    private final Trip trip = new Trip();
    private final Town here = trip.town;
    private final Legs legs = trip.legs;
    private final Town kept = new Town();
    private final Town trial = new Town();
    private final Letters letters = new Letters();
    private final int[] told = new int[MOST_IN_ROW];
    private final int[] order = new int[MOST_ERRANDS];
    private final int[] bestOrder = new int[MOST_ERRANDS];
    private final int[] refusals = new int[7];
    private int toldLength = 0;
    private boolean imageTaken = false;

    public OnlyDownhill() {
    }

    public int letter(int c) {
        if (c < 0) {
            return refuse(BELOW);
        }
        if (c > 255 || letters.length >= MOST_LETTERS) {
            return refuse(ROOM);
        }
        return letters.take(c);
    }

    public int town() {
        int answer = tellTown();
        letters.length = 0;
        return answer;
    }

    public int place(int place, int what) {
        if (!isPlace(place)) {
            return refuse(NOBODY);
        }
        switch (what) {
            case 0:
                return here.kind[place];
            case 1:
                return here.slope[place];
            case 2:
                return here.pushers[place];
            case 3:
                return here.startsAt(place);
            case 4:
                return here.pushedAt(place);
            default:
                return refuse(OTHER);
        }
    }

    public int slope(int place, int v) {
        if (!isPlace(place)) {
            return refuse(NOBODY);
        }
        if (v < 0) {
            return refuse(BELOW);
        }
        if (v > 9) {
            return refuse(ROOM);
        }
        int was = here.slope[place];
        here.slope[place] = v;
        return was;
    }

    public int errand(int errand, int what) {
        if (errand < 0 || errand >= here.errands) {
            return refuse(NOBODY);
        }
        switch (what) {
            case 0:
                return here.errandPlace[errand];
            case 1:
                return here.lasts[errand];
            case 2:
                return here.worths[errand];
            case 3:
                return here.tills[errand];
            default:
                return refuse(OTHER);
        }
    }

    public int set(int what, int v) {
        if (what < 0 || what > 2) {
            return refuse(OTHER);
        }
        if (v < 0) {
            return refuse(BELOW);
        }
        if (v > mostOfSetting(what)) {
            return refuse(ROOM);
        }
        int was = settingOf(what);
        if (what == 0) {
            here.fuel = v;
        } else if (what == 1) {
            here.run = v;
        } else {
            here.driver = v;
        }
        return was;
    }

    public int leg(int from, int to, int what) {
        return between(from, to, what, false);
    }

    public int safe(int from, int to, int what) {
        return between(from, to, what, true);
    }

    public int day(int what) {
        if (what < 0 || what > 2) {
            return refuse(OTHER);
        }
        if (here.places == 0) {
            return refuse(STATE);
        }
        goByRow();
        if (what == 0) {
            return trip.minute;
        }
        return what == 1 ? trip.done : trip.fuelUsed;
    }

    public long likely(int part) {
        int refusal = refusalOfPart(part);
        if (refusal < 0) {
            return refuseLong(refusal);
        }
        goByRow();
        return partOf(trip.chance, part);
    }

    public long worth(int part) {
        int refusal = refusalOfPart(part);
        if (refusal < 0) {
            return refuseLong(refusal);
        }
        goByRow();
        return partOf(trip.gain, part);
    }

    public int best(int by, int i) {
        int refusal = refusalOfBest(by);
        if (refusal < 0) {
            return refuse(refusal);
        }
        if (i < 0 || i >= here.errands) {
            return refuse(NOBODY);
        }
        goByBest(by);
        return bestOrder[i];
    }

    public int bestMinutes(int by) {
        int refusal = refusalOfBest(by);
        if (refusal < 0) {
            return refuse(refusal);
        }
        goByBest(by);
        return trip.minute;
    }

    public long bestLikely(int by, int part) {
        int refusal = refusalOfBestPart(by, part);
        if (refusal < 0) {
            return refuseLong(refusal);
        }
        goByBest(by);
        return partOf(trip.chance, part);
    }

    public long bestWorth(int by, int part) {
        int refusal = refusalOfBestPart(by, part);
        if (refusal < 0) {
            return refuseLong(refusal);
        }
        goByBest(by);
        return partOf(trip.gain, part);
    }

    public int sure() {
        if (here.places == 0) {
            return refuse(STATE);
        }
        trip.supposeAsItIs();
        int bits = 0;
        for (int errand = 0; errand < here.errands; errand++) {
            order[0] = errand;
            trip.goBy(order, 1);
            if (trip.chance == CERTAIN) {
                bits |= trip.done;
            }
        }
        return bits;
    }

    public int bestDriver() {
        if (here.places == 0) {
            return refuse(STATE);
        }
        int length = orderOfRow(NONE);
        int first = 0;
        long most = 0;
        trip.supposeAsItIs();
        for (int kind = 0; kind <= SAFE_ONE; kind++) {
            trip.driver = kind;
            trip.goBy(order, length);
            if (kind == 0 || trip.gain > most) {
                first = kind;
                most = trip.gain;
            }
        }
        return first;
    }

    public int leftOut() {
        if (here.places == 0) {
            return refuse(STATE);
        }
        goByRow();
        int first = NONE;
        long most = trip.gain;
        for (int i = 0; i < toldLength; i++) {
            trip.goBy(order, orderOfRow(told[i]));
            if (trip.gain > most) {
                first = told[i];
                most = trip.gain;
            }
        }
        return first;
    }

    public int runOn() {
        if (here.places == 0) {
            return refuse(STATE);
        }
        int length = orderOfRow(NONE);
        int least = 0;
        long most = 0;
        trip.supposeAsItIs();
        trip.driver = RUNNER;
        for (int run = 0; run <= MOST_RUN; run++) {
            trip.run = run;
            trip.goBy(order, length);
            if (run == 0 || trip.gain > most) {
                least = run;
                most = trip.gain;
            }
        }
        return least;
    }

    public int push() {
        if (here.places == 0) {
            return refuse(STATE);
        }
        int length = orderOfRow(NONE);
        trip.supposeAsItIs();
        trip.driver = PUSHER;
        trip.goBy(order, length);
        int first = NONE;
        long most = trip.gain;
        for (int place = 0; place < here.places; place++) {
            trip.supposePushers(place, Math.min(3, here.pushers[place] + 1));
            trip.goBy(order, length);
            trip.supposePushers(place, here.pushers[place]);
            if (trip.gain > most) {
                first = place;
                most = trip.gain;
            }
        }
        return first;
    }

    public long hill(int part) {
        int refusal = refusalOfPart(part);
        if (refusal < 0) {
            return refuseLong(refusal);
        }
        return partOf(gainIfSureUpTo(HOME), part);
    }

    public int mend(int m, int n) {
        if (m < 0 || n < 1) {
            return refuse(BELOW);
        }
        if (m > MOST_PRICE || n > MOST_DAYS) {
            return refuse(ROOM);
        }
        if (here.places == 0) {
            return refuse(STATE);
        }
        return n * gainIfSureUpTo(here.places - 1) >= m * CERTAIN ? 1 : 0;
    }

    public int mendFrom(int m) {
        if (m < 0) {
            return refuse(BELOW);
        }
        if (m > MOST_PRICE) {
            return refuse(ROOM);
        }
        if (here.places == 0) {
            return refuse(STATE);
        }
        long gain = gainIfSureUpTo(here.places - 1);
        for (int days = 1; days <= MOST_DAYS; days++) {
            if (days * gain >= m * CERTAIN) {
                return days;
            }
        }
        return NONE;
    }

    public int onFoot(int one, int other, int what) {
        if (!isPlace(one) || !isPlace(other)) {
            return refuse(NOBODY);
        }
        if (what < 0 || what > 1) {
            return refuse(OTHER);
        }
        int first = NONE;
        int least = NONE;
        for (int place = 0; place < here.places; place++) {
            int walked = walkedFrom(place, one, other);
            if (walked >= 0 && here.startsAt(place) == 10 && (first == NONE || walked < least)) {
                first = place;
                least = walked;
            }
        }
        return what == 0 ? first : least;
    }

    public int onTheWay(int place, int from, int to) {
        if (!isPlace(place) || !isPlace(from) || !isPlace(to)) {
            return refuse(NOBODY);
        }
        int there = legs.minutesOf(from, place, false);
        int onwards = legs.minutesOf(place, to, false);
        if (there < 0 || onwards < 0) {
            return 0;
        }
        return there + onwards == legs.minutesOf(from, to, false) ? 1 : 0;
    }

    public int row(int v) {
        if (v < 0) {
            return refuse(BELOW);
        }
        if (v > 9 || toldLength >= MOST_IN_ROW) {
            return refuse(ROOM);
        }
        told[toldLength] = v;
        toldLength++;
        return toldLength;
    }

    public int clear() {
        int had = toldLength;
        toldLength = 0;
        return had;
    }

    public int judge() {
        if (here.places == 0) {
            return refuse(STATE);
        }
        goByRow();
        int open = trip.done;
        for (int i = 0; i < toldLength; i++) {
            int bit = 1 << told[i];
            if ((open & bit) == 0) {
                return i;
            }
            open &= ~bit;
        }
        return NONE;
    }

    public int lots(int n, int z) {
        if (n < 1) {
            return refuse(BELOW);
        }
        if (n > MOST_LOTS) {
            return refuse(ROOM);
        }
        if (here.places == 0) {
            return refuse(STATE);
        }
        goByRow();
        return trip.timesHome(n, z);
    }

    public int image() {
        kept.becomeLike(here);
        imageTaken = true;
        return here.places;
    }

    public int on() {
        if (!imageTaken) {
            return refuse(STATE);
        }
        here.becomeLike(kept);
        legs.measure(here);
        return here.places;
    }

    public int count(int what) {
        if (what >= 11 && what <= 16) {
            return refusals[what - 10];
        }
        switch (what) {
            case 0:
                return here.places;
            case 1:
                return here.ways;
            case 2:
                return here.errands;
            case 3:
            case 4:
            case 5:
                return settingOf(what - 3);
            case 6:
                return here.allWorth();
            case 7:
                return toldLength;
            case 8:
                return letters.length;
            default:
                return NONE;
        }
    }

    private int refuse(int refusal) {
        int index = -refusal;
        if (index >= 1 && index < refusals.length) {
            refusals[index]++;
        }
        return refusal;
    }

    private long refuseLong(int refusal) {
        return LONG_REFUSAL - refuse(refusal);
    }

    private int refusalOfPart(int part) {
        if (part < 0 || part > 1) {
            return OTHER;
        }
        return here.places == 0 ? STATE : 0;
    }

    private int refusalOfBest(int by) {
        if (by < 0 || by > 2) {
            return OTHER;
        }
        return here.places == 0 ? STATE : 0;
    }

    private int refusalOfBestPart(int by, int part) {
        if (by < 0 || by > 2) {
            return OTHER;
        }
        return refusalOfPart(part);
    }

    private boolean isPlace(int place) {
        return place >= 0 && place < here.places;
    }

    private static int mostOfSetting(int what) {
        if (what == 0) {
            return 9;
        }
        return what == 1 ? MOST_RUN : SAFE_ONE;
    }

    private int settingOf(int what) {
        if (what == 0) {
            return here.fuel;
        }
        return what == 1 ? here.run : here.driver;
    }

    /** Tells the letters to a copy, since with a FAULT nothing of them may come. */
    private int tellTown() {
        int misfit = letters.firstMisfit();
        if (misfit >= 0) {
            return -1000 - misfit;
        }
        trial.becomeLike(here);
        int wrong = letters.firstWrongStatement(trial);
        if (wrong >= 0) {
            return -2000 - wrong;
        }
        here.becomeLike(trial);
        legs.measure(here);
        return letters.statements();
    }

    private int between(int from, int to, int what, boolean safely) {
        if (!isPlace(from) || !isPlace(to)) {
            return refuse(NOBODY);
        }
        if (what < 0 || what > 1) {
            return refuse(OTHER);
        }
        return what == 0 ? legs.minutesOf(from, to, safely) : legs.stallsOf(from, to, safely);
    }

    /** MINUTES on foot from a PLACE to both and back each time; NONE if one can not be come to. */
    private int walkedFrom(int place, int one, int other) {
        int toOne = legs.minutesOf(place, one, false);
        int toOther = legs.minutesOf(place, other, false);
        if (toOne < 0 || toOther < 0) {
            return NONE;
        }
        return 5 * (2 * toOne + 2 * toOther);
    }

    /** Lays the ERRANDS of the ROW into the order, each once and but for one: how many. */
    private int orderOfRow(int without) {
        int length = 0;
        int seen = 0;
        for (int i = 0; i < toldLength; i++) {
            int errand = told[i];
            int bit = 1 << errand;
            if (errand < here.errands && errand != without && (seen & bit) == 0 && length < order.length) {
                seen |= bit;
                order[length] = errand;
                length++;
            }
        }
        return length;
    }

    private void goByRow() {
        trip.supposeAsItIs();
        trip.goBy(order, orderOfRow(NONE));
    }

    /** Finds BEST and goes by it once more, so that the trip tells its MINUTES, LIKELY and WORTH. */
    private void goByBest(int by) {
        int length = here.errands;
        for (int i = 0; i < length; i++) {
            order[i] = i;
        }
        trip.supposeAsItIs();
        long most = 0;
        boolean further = true;
        for (int round = 0; round < MOST_ORDERS && further; round++) {
            trip.goBy(order, length);
            long rating = ratingBy(by);
            if (round == 0 || rating > most) {
                most = rating;
                System.arraycopy(order, 0, bestOrder, 0, length);
            }
            further = turnToNextOrder(length);
        }
        trip.goBy(bestOrder, length);
    }

    private long ratingBy(int by) {
        if (by == 0) {
            return -trip.minute;
        }
        return by == 1 ? trip.chance : trip.gain;
    }

    /** Makes the order the next one by numbers: false, if it was the last. */
    private boolean turnToNextOrder(int length) {
        int low = length - 2;
        while (low >= 0 && order[low] > order[low + 1]) {
            low--;
        }
        if (low < 0) {
            return false;
        }
        int high = length - 1;
        while (high > low && order[high] < order[low]) {
            high--;
        }
        swapInOrder(low, high);
        for (int left = low + 1, right = length - 1; left < right; left++, right--) {
            swapInOrder(left, right);
        }
        return true;
    }

    private void swapInOrder(int one, int other) {
        int held = order[one];
        order[one] = order[other];
        order[other] = held;
    }

    /** How much more WORTH THE DAY has, were STARTS 10 at all PLACES up to one. */
    private long gainIfSureUpTo(int lastPlace) {
        goByRow();
        long before = trip.gain;
        for (int place = 0; place <= lastPlace && place < here.places; place++) {
            trip.supposeSureStart(place);
        }
        trip.goBy(order, orderOfRow(NONE));
        return trip.gain - before;
    }

    /** The line's upper or lower side of an amount told in the unit of CERTAIN, whose only primes are 2 and 5. */
    private static long partOf(long amount, int part) {
        long above = amount;
        long below = CERTAIN;
        for (int i = 0; i < MOST_CHANCES; i++) {
            if (above % 2 == 0 && below % 2 == 0) {
                above /= 2;
                below /= 2;
            }
            if (above % 5 == 0 && below % 5 == 0) {
                above /= 5;
                below /= 5;
            }
        }
        return part == 0 ? above : below;
    }

    /** All that THE IMAGE keeps. */
    private static final class Town {
        final int[] kind = new int[MOST_PLACES];
        final int[] slope = new int[MOST_PLACES];
        final int[] pushers = new int[MOST_PLACES];
        final int[] wayFrom = new int[MOST_WAYS];
        final int[] wayTo = new int[MOST_WAYS];
        final int[] wayMinutes = new int[MOST_WAYS];
        final int[] wayLights = new int[MOST_WAYS];
        final int[] errandPlace = new int[MOST_ERRANDS];
        final int[] lasts = new int[MOST_ERRANDS];
        final int[] worths = new int[MOST_ERRANDS];
        final int[] tills = new int[MOST_ERRANDS];
        int places = 0;
        int ways = 0;
        int errands = 0;
        int fuel = 1;
        int run = 10;
        int driver = 0;

        void becomeLike(Town other) {
            System.arraycopy(other.kind, 0, kind, 0, MOST_PLACES);
            System.arraycopy(other.slope, 0, slope, 0, MOST_PLACES);
            System.arraycopy(other.pushers, 0, pushers, 0, MOST_PLACES);
            System.arraycopy(other.wayFrom, 0, wayFrom, 0, MOST_WAYS);
            System.arraycopy(other.wayTo, 0, wayTo, 0, MOST_WAYS);
            System.arraycopy(other.wayMinutes, 0, wayMinutes, 0, MOST_WAYS);
            System.arraycopy(other.wayLights, 0, wayLights, 0, MOST_WAYS);
            System.arraycopy(other.errandPlace, 0, errandPlace, 0, MOST_ERRANDS);
            System.arraycopy(other.lasts, 0, lasts, 0, MOST_ERRANDS);
            System.arraycopy(other.worths, 0, worths, 0, MOST_ERRANDS);
            System.arraycopy(other.tills, 0, tills, 0, MOST_ERRANDS);
            places = other.places;
            ways = other.ways;
            errands = other.errands;
            fuel = other.fuel;
            run = other.run;
            driver = other.driver;
        }

        boolean addPlace(int newKind, int newSlope, int newPushers) {
            if (places >= MOST_PLACES || newPushers > 3) {
                return false;
            }
            kind[places] = newKind;
            slope[places] = newSlope;
            pushers[places] = newPushers;
            places++;
            return true;
        }

        boolean addWay(int from, int to, int minutes, int lights) {
            if (ways >= MOST_WAYS || from >= places || to >= places || from == to || hasWay(from, to)) {
                return false;
            }
            if (minutes < 1 || minutes > 60) {
                return false;
            }
            wayFrom[ways] = from;
            wayTo[ways] = to;
            wayMinutes[ways] = minutes;
            wayLights[ways] = lights;
            ways++;
            return true;
        }

        private boolean hasWay(int one, int other) {
            for (int i = 0; i < ways; i++) {
                if (wayFrom[i] == one && wayTo[i] == other || wayFrom[i] == other && wayTo[i] == one) {
                    return true;
                }
            }
            return false;
        }

        boolean addErrand(int at, int minutes, int gain, int till) {
            if (errands >= MOST_ERRANDS || at >= places || minutes < 1 || minutes > 60) {
                return false;
            }
            errandPlace[errands] = at;
            lasts[errands] = minutes;
            worths[errands] = gain;
            tills[errands] = till;
            errands++;
            return true;
        }

        boolean useFuel(int newFuel, int newRun) {
            if (newRun > MOST_RUN) {
                return false;
            }
            fuel = newFuel;
            run = newRun;
            return true;
        }

        boolean takeDriver(int newDriver) {
            if (newDriver > SAFE_ONE) {
                return false;
            }
            driver = newDriver;
            return true;
        }

        int startsAt(int place) {
            return startsWith(place, pushers[place]);
        }

        int pushedAt(int place) {
            return pushedFrom(startsAt(place), pushers[place]);
        }

        /** STARTS, were PUSHERS so many. */
        int startsWith(int place, int helpers) {
            int plain = Math.min(10, 2 * slope[place]);
            int wet = Math.max(0, plain - 2);
            int bumpy = Math.min(10, plain + 1);
            switch (kind[place]) {
                case 1:
                    return wet;
                case 2:
                    return bumpy;
                case 3:
                    return slope[place] > 0 ? 10 : bumpy;
                case 4:
                    return wet / 2;
                case 5:
                    return Math.max(0, bumpy - 3 * Math.max(0, 2 - helpers));
                default:
                    return plain;
            }
        }

        /** PUSHED, were STARTS and PUSHERS so many. */
        static int pushedFrom(int starts, int helpers) {
            return Math.min(10, starts + 2 * helpers);
        }

        int allWorth() {
            int sum = 0;
            for (int i = 0; i < errands; i++) {
                sum += worths[i];
            }
            return sum;
        }
    }

    /** The letters told so far, and how they become STATEMENTS. */
    private static final class Letters {
        private static final String KINDS = "pwbhkn";
        final int[] signs = new int[MOST_LETTERS];
        int length = 0;

        int take(int sign) {
            if (length < MOST_LETTERS) {
                signs[length] = sign;
                length++;
            }
            return length;
        }

        /** What must stand behind a STATEMENT's first letter: k a KIND, 0 a digit; nothing where it can't begin so. */
        private static String shapeBehind(int first) {
            switch (first) {
                case 'p':
                    return "k00;";
                case 'w':
                    return "00000;";
                case 'e':
                    return "00000000;";
                case 'f':
                    return "000;";
                case 'd':
                    return "0;";
                default:
                    return "";
            }
        }

        private static boolean fits(char wanted, int sign) {
            if (wanted == 'k') {
                return KINDS.indexOf((char) sign) >= 0;
            }
            if (wanted == '0') {
                return sign >= '0' && sign <= '9';
            }
            return sign == wanted;
        }

        /** The place of FAULT kind 1, -1 without. */
        int firstMisfit() {
            String shape = "";
            int step = 0;
            for (int at = 0; at < length; at++) {
                if (step >= shape.length()) {
                    shape = shapeBehind(signs[at]);
                    step = 0;
                    if (shape.isEmpty()) {
                        return at;
                    }
                } else if (fits(shape.charAt(step), signs[at])) {
                    step++;
                } else {
                    return at;
                }
            }
            return length > 0 && step >= shape.length() ? -1 : length;
        }

        /** Tells all STATEMENTS to a town: the place of FAULT kind 2, -1 without. */
        int firstWrongStatement(Town town) {
            for (int at = 0; at < length; at++) {
                boolean begins = at == 0 || signs[at - 1] == ';';
                if (begins && !tellStatement(town, at)) {
                    return at;
                }
            }
            return -1;
        }

        int statements() {
            int ends = 0;
            for (int at = 0; at < length; at++) {
                if (signs[at] == ';') {
                    ends++;
                }
            }
            return ends;
        }

        private boolean tellStatement(Town town, int at) {
            switch (signs[at]) {
                case 'p':
                    return town.addPlace(kindAt(at + 1), number(at + 2, 1), number(at + 3, 1));
                case 'w':
                    return town.addWay(number(at + 1, 1), number(at + 2, 1), number(at + 3, 2), number(at + 5, 1));
                case 'e':
                    return town.addErrand(number(at + 1, 1), number(at + 2, 2), number(at + 4, 2), number(at + 6, 3));
                case 'f':
                    return town.useFuel(number(at + 1, 1), number(at + 2, 2));
                case 'd':
                    return town.takeDriver(number(at + 1, 1));
                default:
                    return false;
            }
        }

        private int kindAt(int at) {
            return at < length ? KINDS.indexOf((char) signs[at]) : 0;
        }

        private int number(int from, int digits) {
            int value = 0;
            for (int at = from; at < from + digits && at < length; at++) {
                value = 10 * value + signs[at] - '0';
            }
            return value;
        }
    }

    /** LEGS and SAFE ways between all PLACES, measured whenever the ways may have changed. */
    private static final class Legs {
        private static final int PAIRS = MOST_PLACES * MOST_PLACES;
        private static final int FAR = 1000000;
        private final int[] minutes = new int[PAIRS];
        private final int[] stalls = new int[PAIRS];
        private final int[] safeMinutes = new int[PAIRS];
        private final int[] safeStalls = new int[PAIRS];
        private final int[] apart = new int[PAIRS];

        int minutesOf(int from, int to, boolean safely) {
            int pair = from * MOST_PLACES + to;
            if (pair < 0 || pair >= PAIRS) {
                return NONE;
            }
            return safely ? safeMinutes[pair] : minutes[pair];
        }

        int stallsOf(int from, int to, boolean safely) {
            int pair = from * MOST_PLACES + to;
            if (pair < 0 || pair >= PAIRS) {
                return NONE;
            }
            return safely ? safeStalls[pair] : stalls[pair];
        }

        /**
         * Goes up through all LIGHTS: the first that lets a pair meet is its SAFE way, and the last that
         * brought it nearer is its LEG. A greatest of LIGHTS can't be shortened piece by piece otherwise.
         */
        void measure(Town town) {
            for (int pair = 0; pair < PAIRS; pair++) {
                minutes[pair] = NONE;
                stalls[pair] = NONE;
                safeMinutes[pair] = NONE;
                safeStalls[pair] = NONE;
            }
            for (int lights = 0; lights <= 9; lights++) {
                layWays(town, lights);
                shorten(town.places);
                for (int pair = 0; pair < PAIRS; pair++) {
                    keepIfNearer(pair, lights);
                }
            }
        }

        /** Only the ways with no more LIGHTS than told. */
        private void layWays(Town town, int lights) {
            for (int pair = 0; pair < PAIRS; pair++) {
                apart[pair] = pair / MOST_PLACES == pair % MOST_PLACES ? 0 : FAR;
            }
            for (int i = 0; i < town.ways; i++) {
                if (town.wayLights[i] <= lights) {
                    apart[town.wayFrom[i] * MOST_PLACES + town.wayTo[i]] = town.wayMinutes[i];
                    apart[town.wayTo[i] * MOST_PLACES + town.wayFrom[i]] = town.wayMinutes[i];
                }
            }
        }

        private void shorten(int places) {
            for (int over = 0; over < places; over++) {
                for (int from = 0; from < places; from++) {
                    for (int to = 0; to < places; to++) {
                        int detour = apart[from * MOST_PLACES + over] + apart[over * MOST_PLACES + to];
                        int pair = from * MOST_PLACES + to;
                        if (detour < apart[pair]) {
                            apart[pair] = detour;
                        }
                    }
                }
            }
        }

        private void keepIfNearer(int pair, int lights) {
            if (apart[pair] >= FAR) {
                return;
            }
            if (safeMinutes[pair] < 0) {
                safeMinutes[pair] = apart[pair];
                safeStalls[pair] = lights;
            }
            if (minutes[pair] < 0 || apart[pair] < minutes[pair]) {
                minutes[pair] = apart[pair];
                stalls[pair] = lights;
            }
        }
    }

    /** One DAY by an order, under what is supposed of PLACES and DRIVER, and what came of it. */
    private static final class Trip {
        final Town town = new Town();
        final Legs legs = new Legs();
        private final int[] starts = new int[MOST_PLACES];
        private final int[] pushed = new int[MOST_PLACES];
        private final int[] chanceTenths = new int[MOST_CHANCES];
        private final boolean[] chanceIsStall = new boolean[MOST_CHANCES];
        private int chances = 0;
        private int at = HOME;
        int driver = 0;
        int run = 0;
        int minute = 0;
        int done = 0;
        int fuelUsed = 0;
        /** How likely it has come so far, in the unit of CERTAIN. */
        long chance = 0;
        /** WORTH in the mean so far, in the unit of CERTAIN. */
        long gain = 0;

        void supposeAsItIs() {
            driver = town.driver;
            run = town.run;
            for (int place = 0; place < town.places; place++) {
                supposePushers(place, town.pushers[place]);
            }
        }

        void supposePushers(int place, int helpers) {
            starts[place] = town.startsWith(place, helpers);
            pushed[place] = Town.pushedFrom(starts[place], helpers);
        }

        void supposeSureStart(int place) {
            starts[place] = 10;
            pushed[place] = 10;
        }

        void goBy(int[] order, int length) {
            chances = 0;
            at = HOME;
            minute = 0;
            done = 0;
            fuelUsed = 0;
            chance = CERTAIN;
            gain = 0;
            startHere();
            for (int i = 0; i < length && i < order.length; i++) {
                visit(order[i]);
            }
            driveTo(HOME);
        }

        private void visit(int errand) {
            if (errand < 0 || errand >= town.errands) {
                return;
            }
            int place = town.errandPlace[errand];
            if (leavesOut(place)) {
                return;
            }
            driveTo(place);
            if (minute > town.tills[errand]) {
                return;
            }
            done |= 1 << errand;
            gain += chance * town.worths[errand];
            minute += town.lasts[errand];
            if (runsOn(errand)) {
                int burnt = town.fuel * town.lasts[errand];
                fuelUsed += burnt;
                gain -= chance * burnt;
            } else {
                startHere();
            }
        }

        private boolean leavesOut(int place) {
            boolean tooFlat = (driver == SLOPER || driver == SAFE_ONE) && starts[place] < 10;
            return tooFlat || legs.minutesOf(at, place, driver == SAFE_ONE) < 0;
        }

        private boolean runsOn(int errand) {
            if (town.lasts[errand] > run) {
                return false;
            }
            return driver == RUNNER || driver == CAREFUL && starts[at] < 10;
        }

        private void startHere() {
            int tenths = driver == PUSHER ? pushed[at] : starts[at];
            chance = chance / 10 * tenths;
            noteChance(tenths, false);
        }

        private void driveTo(int place) {
            boolean safely = driver == SAFE_ONE;
            int tenths = legs.stallsOf(at, place, safely);
            minute += legs.minutesOf(at, place, safely);
            at = place;
            chance = chance / 10 * (10 - tenths);
            noteChance(tenths, true);
        }

        private void noteChance(int tenths, boolean isStall) {
            if (chances < MOST_CHANCES) {
                chanceTenths[chances] = tenths;
                chanceIsStall[chances] = isStall;
                chances++;
            }
        }

        /** Goes the noted STARTS and STALLS of the last day again, so many times, by DRAWS. */
        int timesHome(int days, int seed) {
            int z = seed;
            int home = 0;
            for (int i = 0; i < days; i++) {
                boolean goes = true;
                for (int k = 0; k < chances && goes; k++) {
                    int tenths = chanceTenths[k];
                    boolean happens = tenths >= 10;
                    if (tenths > 0 && tenths < 10) {
                        z = z * 1664525 + 1013904223;
                        happens = (z & 0x7fffffff) / 256 % 10 < tenths;
                    }
                    goes = happens != chanceIsStall[k];
                }
                if (goes) {
                    home++;
                }
            }
            return home;
        }
    }
}
