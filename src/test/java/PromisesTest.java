import java.util.Arrays;

/** For each promise, calls with the answers that the document asks for, worked out by hand. */
public final class PromisesTest {
    private static final long REFUSED_OTHER = 4000000000000000002L;
    private static final long REFUSED_STATE = 4000000000000000003L;
    /** Six PLACES, one of each KIND, in a ring with a short cut, and four ERRANDS. */
    private static final String TOWN =
        "ph31;pp40;pw62;pb51;pk93;pn71;w01050;w12083;w23102;w03207;w34010;w45121;w05405;";
    private static final String ERRANDS = "e11230120;e20840060;e40505300;e51533030;f312;";
    /** HOME that may not start, a way with LIGHTS, a PLACE that may not start. */
    private static final String UNSURE = "pp30;pp20;w01053;e10510100;";
    private static int wrong = 0;
    private static int asked = 0;

    private final int promise;
    private final Caller caller = new Caller();

    private PromisesTest(int promise, String... towns) {
        this.promise = promise;
        for (String town : towns) {
            spell(town);
            due("town", town.chars().filter(c -> c == ';').count());
        }
    }

    /** A call told as "name argument argument". */
    private void due(String told, long want) {
        String[] words = told.split(" ");
        int[] arguments = new int[words.length - 1];
        for (int i = 0; i < arguments.length; i++) {
            arguments[i] = Integer.parseInt(words[i + 1]);
        }
        long got = caller.call(words[0], arguments);
        asked++;
        if (got != want) {
            wrong++;
            System.out.println("promise " + promise + ": " + words[0] + Arrays.toString(arguments) + " answered " + got
                + ", due is " + want);
        }
    }

    private void dueFraction(String told, long above, long below) {
        due(told + " 0", above);
        due(told + " 1", below);
    }

    private void spell(String text) {
        for (char c : text.toCharArray()) {
            caller.call("letter", c);
        }
    }

    private void fault(String text, long want) {
        spell(text);
        due("town", want);
        due("count 8", 0);
    }

    private void rowOf(int... numbers) {
        caller.call("clear");
        for (int number : numbers) {
            caller.call("row", number);
        }
    }

    public static void main(String[] args) {
        newObject();
        letter();
        town();
        townNotAsItMustBe();
        placeAndSlope();
        errandAndSet();
        legAndSafe();
        dayByDriver();
        dayEdges();
        best();
        sure();
        bestDriverAndLeftOut();
        runOnAndPush();
        hillAndMend();
        onFootAndOnTheWay();
        rowClearJudge();
        lots();
        imageAndOn();
        count();
        fullTown();
        System.out.println(asked + " answers looked at, " + wrong + " are not as due");
        if (wrong != 0) {
            System.exit(1);
        }
    }

    private static void newObject() {
        PromisesTest x = new PromisesTest(1);
        for (int what = 0; what <= 2; what++) {
            x.due("count " + what, 0);
        }
        x.due("count 3", 1);
        x.due("count 4", 10);
        for (int what = 5; what <= 8; what++) {
            x.due("count " + what, 0);
        }
        for (int what = 11; what <= 16; what++) {
            x.due("count " + what, 0);
        }
    }

    private static void letter() {
        PromisesTest x = new PromisesTest(2);
        x.due("letter 0", 1);
        x.due("letter 255", 2);
        x.due("letter -1", -4);
        x.due("letter 256", -6);
        x.due("letter -2147483648", -4);
        x.due("letter 2147483647", -6);
        for (int n = 3; n <= 96; n++) {
            x.due("letter 59", n);
        }
        x.due("letter 59", -6);
        x.due("letter -1", -4);
        x.due("count 8", 96);
        x.due("count 14", 3);
        x.due("count 16", 3);
        x.due("town", -1000);
        x.due("letter 59", 1);
    }

    private static void town() {
        PromisesTest x = new PromisesTest(3);
        x.due("town", -1000);
        x.fault(";", -1000);
        x.fault("pp00", -1004);
        x.fault("p", -1001);
        x.fault("pp00;p", -1006);
        x.fault("pp00;;", -1005);
        x.fault("pP00;", -1001);
        x.fault("pp0x;", -1003);
        x.fault("pp/0;", -1002);
        x.fault("pp:0;", -1002);
        x.fault("pp00w", -1004);
        x.fault("w0x010;", -1002);
        x.fault("e00101 01;", -1006);
        x.fault("e001010010;", -1009);
        x.fault("f10;", -1003);
        x.fault("f1000;", -1004);
        x.fault("d;", -1001);
        x.fault("d00;", -1002);
        x.fault("pp09;pp00;x", -1010);
        x.fault("pp00;pp00;pp00;pp00;pp00;pp00;pp00;pp00;pp00;pp00;pp00;pp00;pp00;pp00;pp00;pp00;pp00;pp00;pp00;p", -1096);
        x.due("count 0", 0);
        for (int what = 11; what <= 16; what++) {
            x.due("count " + what, 0);
        }
        x.fault("f960;d5;", 2);
        x.due("count 3", 9);
        x.due("count 4", 60);
        x.due("count 5", 5);
        x.fault("f000;d0;f100;", 3);
        x.due("count 3", 1);
        x.due("count 4", 0);
        x.fault("pp00;", 1);
        x.fault("pp00;w01600;e16099999;", 3);
        x.due("leg 0 1 0", 60);
        x.due("errand 0 1", 60);
        x.due("errand 0 2", 99);
        x.due("errand 0 3", 999);
    }

    private static void townNotAsItMustBe() {
        PromisesTest x = new PromisesTest(3, "pp50;");
        x.fault("pp00;pp04;", -2005);
        x.fault("w01010;pp00;", -2000);
        x.fault("pp00;w02010;", -2005);
        x.fault("pp00;w20010;", -2005);
        x.fault("pp00;w11010;", -2005);
        x.fault("pp00;w01000;", -2005);
        x.fault("pp00;w01610;", -2005);
        x.fault("pp00;w01010;w10020;", -2012);
        x.fault("pp00;w01010;w01020;", -2012);
        x.fault("e10101001;pp00;", -2000);
        x.fault("e00001001;", -2000);
        x.fault("e06101001;", -2000);
        x.fault("f961;", -2000);
        x.fault("d1;f500;d6;", -2008);
        x.due("count 0", 1);
        x.due("count 1", 0);
        x.due("count 2", 0);
        x.due("count 3", 1);
        x.due("count 4", 10);
        x.due("count 5", 0);
        x.fault("e00101001;e00101001;e00101001;e00101001;e00101001;e00101001;", -2050);
        x.fault("e00101001;e00101001;e00101001;e00101001;e00101001;", 5);
        x.fault("e00101001;", -2000);
        x.fault("pp00;pp00;pp00;pp00;pp00;pp00;pp00;pp00;", -2035);
        x.fault("pp00;pp00;pp00;pp00;pp00;pp00;pp00;", 7);
        x.fault("pp00;", -2000);
        x.fault("w01010;w02010;w03010;w04010;w05010;w06010;w07010;w12010;w13010;w14010;w15010;w16010;w17010;", 13);
        x.fault("w23010;w24010;", -2007);
        x.fault("w23010;", 1);
        x.fault("w24010;", -2000);
        x.fault("w08010;", -2000);
        x.due("count 1", 14);
    }

    private static void placeAndSlope() {
        PromisesTest x = new PromisesTest(4, TOWN);
        int[][] places = {{3, 3, 1, 10, 10}, {0, 4, 0, 8, 8}, {1, 6, 2, 8, 10}, {2, 5, 1, 10, 10}, {4, 9, 3, 4, 10},
            {5, 7, 1, 7, 9}};
        for (int place = 0; place < 6; place++) {
            for (int what = 0; what < 5; what++) {
                x.due("place " + place + " " + what, places[place][what]);
            }
        }
        x.due("place 6 0", -1);
        x.due("place -1 5", -1);
        x.due("place 0 5", -2);
        x.due("place 0 -1", -2);

        PromisesTest y = new PromisesTest(5, "pp00;pw00;pb00;ph00;pk00;pn02;pn00;pn03;");
        int[][] startsBySlope = {{0, 0, 1, 1, 0, 1, 0, 1}, {2, 0, 3, 10, 0, 3, 0, 3}, {4, 2, 5, 10, 1, 5, 0, 5},
            {6, 4, 7, 10, 2, 7, 1, 7}, {8, 6, 9, 10, 3, 9, 3, 9}, {10, 8, 10, 10, 4, 10, 4, 10},
            {10, 8, 10, 10, 4, 10, 4, 10}};
        int was = 0;
        for (int slope = 0; slope <= 6; slope++) {
            for (int place = 0; place < 8; place++) {
                y.due("slope " + place + " " + slope, was);
                y.due("place " + place + " 1", slope);
                y.due("place " + place + " 3", startsBySlope[slope][place]);
            }
            was = slope;
        }
        y.due("slope 4 3", 6);
        y.due("place 4 3", 2);
        y.due("slope 0 9", 6);
        y.due("slope 0 10", -6);
        y.due("slope 0 -1", -4);
        y.due("slope 8 -1", -1);
        y.due("slope -1 0", -1);
        y.due("place 0 1", 9);
        y.due("count 11", 2);
        y.due("count 14", 1);
        y.due("count 16", 1);
    }

    private static void errandAndSet() {
        PromisesTest x = new PromisesTest(6, TOWN, ERRANDS);
        int[][] errands = {{1, 12, 30, 120}, {2, 8, 40, 60}, {4, 5, 5, 300}, {5, 15, 33, 30}};
        for (int errand = 0; errand < 4; errand++) {
            for (int what = 0; what < 4; what++) {
                x.due("errand " + errand + " " + what, errands[errand][what]);
            }
        }
        x.due("errand 4 0", -1);
        x.due("errand -1 9", -1);
        x.due("errand 0 4", -2);
        x.due("errand 0 -1", -2);

        PromisesTest y = new PromisesTest(7);
        int[] first = {1, 10, 0};
        int[] most = {9, 60, 5};
        for (int what = 0; what < 3; what++) {
            y.due("set " + what + " " + most[what], first[what]);
            y.due("set " + what + " " + (most[what] + 1), -6);
            y.due("set " + what + " -1", -4);
            y.due("count " + (3 + what), most[what]);
            y.due("set " + what + " 0", most[what]);
            y.due("count " + (3 + what), 0);
        }
        y.due("set 3 -1", -2);
        y.due("set -1 99", -2);
    }

    private static void legAndSafe() {
        PromisesTest x = new PromisesTest(8, TOWN);
        x.due("leg 0 2 0", 13);
        x.due("leg 2 0 1", 3);
        x.due("leg 0 5 0", 33);
        x.due("leg 5 0 1", 7);
        x.due("leg 3 3 0", 0);
        x.due("leg 3 3 1", 0);
        x.due("leg 6 0 0", -1);
        x.due("leg 0 6 0", -1);
        x.due("leg -1 0 2", -1);
        x.due("leg 0 1 2", -2);
        x.due("leg 0 1 -1", -2);
        PromisesTest even = new PromisesTest(8, "pp50;pp50;pp50;pp50;w01050;w02104;w12051;");
        even.due("leg 0 2 0", 10);
        even.due("leg 0 2 1", 1);
        even.due("leg 0 3 0", -9);
        even.due("leg 3 0 1", -9);
        even.due("safe 0 3 0", -9);
        even.due("safe 3 0 1", -9);
        even.due("count 11", 0);
        PromisesTest overHome = new PromisesTest(8, "pp50;pp50;pp50;w01050;w02070;");
        overHome.due("leg 1 2 0", 12);
        overHome.due("safe 2 1 0", 12);

        PromisesTest y = new PromisesTest(9, TOWN);
        y.due("safe 0 5 0", 36);
        y.due("safe 0 5 1", 3);
        y.due("safe 0 3 0", 23);
        y.due("safe 3 0 1", 3);
        y.due("safe 4 4 0", 0);
        y.due("safe 4 4 1", 0);
        y.due("safe 0 6 9", -1);
        y.due("safe 0 5 2", -2);
        y.due("safe 0 5 -1", -2);
        // The safest piece (60 MINUTES without LIGHTS) is not a piece of the safest whole, whose LIGHTS are 5 anyway.
        PromisesTest z = new PromisesTest(9, "pp50;pp50;pp50;pp50;w02103;w03300;w32300;w21055;");
        z.due("safe 0 2 0", 60);
        z.due("safe 0 2 1", 0);
        z.due("safe 0 1 0", 15);
        z.due("safe 0 1 1", 5);
    }

    private static void dayByDriver() {
        PromisesTest x = new PromisesTest(10, TOWN, ERRANDS);
        x.rowOf(0, 1);
        int[] homeAt = {46, 46, 46, 46, 0, 0};
        int[] done = {3, 3, 3, 3, 0, 0};
        int[] fuel = {0, 60, 60, 0, 0, 0};
        long[][] likely = {{196, 625}, {49, 100}, {49, 100}, {49, 125}, {1, 1}, {1, 1}};
        long[][] worth = {{262, 5}, {26, 5}, {26, 5}, {262, 5}, {0, 1}, {0, 1}};
        for (int driver = 0; driver <= 5; driver++) {
            x.due("set 2 " + driver, driver == 0 ? 0 : driver - 1);
            x.due("day 0", homeAt[driver]);
            x.due("day 1", done[driver]);
            x.due("day 2", fuel[driver]);
            x.dueFraction("likely", likely[driver][0], likely[driver][1]);
            x.dueFraction("worth", worth[driver][0], worth[driver][1]);
        }
        // RUN below LASTS of the first: it is turned off there, runs on at the second. WORTH: 30 + 0.56 * (40 - 24).
        x.due("set 2 1", 5);
        x.due("set 1 11", 12);
        x.due("day 2", 24);
        x.dueFraction("worth", 974, 25);
        x.dueFraction("likely", 49, 125);
        // FUEL beyond WORTH: 30 - 108 + 0.7 * (40 - 72).
        x.due("set 1 12", 11);
        x.due("set 0 9", 3);
        x.due("day 2", 180);
        x.dueFraction("worth", -502, 5);

        // A SAFE ONE goes round by 40 MINUTES with LIGHTS 2, a SLOPER straight by 5 with LIGHTS 9; the flat PLACE 2 is left out.
        PromisesTest y = new PromisesTest(10, "pp50;pp50;pp40;w01059;w02201;w21202;e10110999;e20110999;d4;");
        y.rowOf(1, 0);
        y.due("day 0", 11);
        y.due("day 1", 1);
        y.dueFraction("likely", 1, 100);
        y.dueFraction("worth", 1, 1);
        y.due("set 2 5", 4);
        y.due("day 0", 81);
        y.dueFraction("likely", 16, 25);
        y.dueFraction("worth", 8, 1);
        // CAREFUL: turned off where STARTS are 10, kept running at PLACE 2 with 8.
        y.due("set 2 2", 5);
        y.due("day 2", 1);
        y.due("set 2 1", 2);
        y.due("day 2", 2);
    }

    private static void dayEdges() {
        PromisesTest none = new PromisesTest(10);
        none.due("day -1", -2);
        none.due("day 3", -2);
        none.due("day 0", -3);
        none.due("likely -1", REFUSED_OTHER);
        none.due("likely 2", REFUSED_OTHER);
        none.due("likely 1", REFUSED_STATE);
        none.due("worth -1", REFUSED_OTHER);
        none.due("worth 2", REFUSED_OTHER);
        none.due("worth 0", REFUSED_STATE);
        none.due("count 12", 6);
        none.due("count 13", 3);

        // TILL is kept at its very minute; one late goes on running, at once and without a START.
        PromisesTest x = new PromisesTest(10, "pp40;pp10;w01050;e10710005;e10710011;e10710012;");
        x.rowOf(0, 1, 2);
        x.due("day 1", 5);
        x.due("day 0", 24);
        x.dueFraction("likely", 4, 125);
        x.dueFraction("worth", 48, 5);
        x.rowOf(0, 7, 0, 9);
        x.due("day 1", 1);
        x.due("day 0", 17);
        PromisesTest twice = new PromisesTest(10, "pp50;pp50;w01050;e10510999;");
        twice.rowOf(0, 0);
        twice.due("day 0", 15);
        twice.dueFraction("worth", 10, 1);
        x.rowOf();
        x.due("day 0", 0);
        x.due("day 1", 0);
        x.dueFraction("likely", 4, 5);
        x.dueFraction("worth", 0, 1);
        // Late for a RUNNER: no FUEL.
        x.due("set 2 1", 0);
        x.rowOf(0, 1);
        x.due("day 2", 7);
        x.due("day 1", 1);
        // A PUSHER is pushed at HOME, too.
        PromisesTest y = new PromisesTest(11, "pp22;pp50;w01050;e10110999;");
        y.rowOf(0);
        y.dueFraction("likely", 2, 5);
        y.due("set 2 3", 0);
        y.dueFraction("likely", 4, 5);
        y.dueFraction("worth", 8, 1);
        // Twelve tenths in one day, none cut: 0.6, five times 0.9 * 0.2, 0.9.
        PromisesTest z = new PromisesTest(11, "pp30;pp10;pp10;w01011;w12011;w02011;",
            "e10101999;e20101999;e10101999;e20101999;e10101999;");
        z.rowOf(0, 1, 2, 3, 4);
        z.dueFraction("likely", 1594323, 15625000000L);
    }

    private static void best() {
        PromisesTest none = new PromisesTest(13);
        none.due("best 3 9", -2);
        none.due("best -1 9", -2);
        none.due("best 0 9", -3);
        none.due("bestMinutes -1", -2);
        none.due("bestMinutes 3", -2);
        none.due("bestMinutes 2", -3);
        none.due("bestLikely 3 0", REFUSED_OTHER);
        none.due("bestLikely 0 2", REFUSED_OTHER);
        none.due("bestLikely 0 -1", REFUSED_OTHER);
        none.due("bestLikely 0 0", REFUSED_STATE);
        none.due("bestWorth -1 0", REFUSED_OTHER);
        none.due("bestWorth 0 2", REFUSED_OTHER);
        none.due("bestWorth 0 1", REFUSED_STATE);

        // Order 0 1: at home 40, LIKELY 0.1, WORTH 70 + 0.1 * 60. Order 1 0: at home 35, LIKELY 0.5, WORTH 60.
        PromisesTest x = new PromisesTest(13, "pp50;pp10;pp50;w01100;w02100;w12105;e10570012;e20560999;");
        long[][] likely = {{1, 2}, {1, 2}, {1, 10}};
        for (int by = 0; by < 3; by++) {
            int first = by == 2 ? 0 : 1;
            x.due("best " + by + " 0", first);
            x.due("best " + by + " 1", 1 - first);
            x.due("best " + by + " 2", -1);
            x.due("best " + by + " -1", -1);
            x.due("bestMinutes " + by, by == 2 ? 40 : 35);
            x.dueFraction("bestLikely " + by, likely[by][0], likely[by][1]);
            x.dueFraction("bestWorth " + by, by == 2 ? 76 : 60, 1);
        }
        x.due("day 0", 0);
        x.due("bestLikely 2 1", 10);
        x.due("day 0", 0);
        x.due("bestWorth 2 0", 76);
        // For a SLOPER, who leaves out the flat one, both orders are as good: the first by numbers.
        x.due("set 2 4", 0);
        x.due("best 0 0", 0);
        x.due("best 1 0", 0);
        x.due("best 2 0", 0);
        x.due("bestMinutes 0", 25);
        // On a line, out and back, all late; or the nearest first, in time, and then the others by numbers.
        PromisesTest y = new PromisesTest(13, "pp50;pp50;pp50;pp50;pp50;pp50;w01010;w12010;w23010;w34010;w45010;",
            "e50101001;e40101001;e30101001;e20101001;e10101001;");
        for (int i = 0; i < 5; i++) {
            y.due("best 0 " + i, i);
            y.due("best 2 " + i, (i + 4) % 5);
        }
        y.due("bestMinutes 0", 10);
        y.due("bestMinutes 2", 11);
        y.dueFraction("bestWorth 2", 1, 1);
    }

    private static void sure() {
        PromisesTest none = new PromisesTest(17);
        none.due("sure", -3);
        // 0 steep, 1 flat, 2 late, 3 behind LIGHTS, 4 not to be come to.
        PromisesTest x = new PromisesTest(17, "pp50;pp50;pp40;pp50;pp50;w01050;w12050;w03051;",
            "e10501005;e20501999;e10501004;e30501999;e40501999;");
        x.due("sure", 1);
        x.due("set 2 1", 0);
        x.due("sure", 3);
        x.due("slope 0 4", 5);
        x.due("sure", 0);
        x.due("slope 0 5", 4);
        x.due("set 2 4", 1);
        x.due("sure", 1);
        x.rowOf(1);
        x.due("sure", 1);
        x.due("set 2 0", 4);
        x.rowOf(3, 1);
        x.due("day 1", 10);
        x.due("sure", 1);
    }

    private static void bestDriverAndLeftOut() {
        PromisesTest none = new PromisesTest(18);
        none.due("bestDriver", -3);
        none.due("leftOut", -3);
        PromisesTest x = new PromisesTest(18, TOWN, ERRANDS);
        x.rowOf(0, 1);
        x.due("bestDriver", 0);
        x.due("set 2 4", 0);
        x.due("bestDriver", 0);
        // 30 + 0.7 * 40 for one who runs on for nothing.
        x.due("set 0 0", 3);
        x.due("bestDriver", 1);
        x.due("count 5", 4);
        // PLACE 2 is pushed by two, 10 for STARTS 8.
        x.due("set 0 9", 0);
        x.rowOf(1, 0);
        x.due("bestDriver", 3);
        x.rowOf();
        x.due("bestDriver", 0);
        // Only a SAFE ONE comes there without LIGHTS 9.
        PromisesTest safe = new PromisesTest(18, "pp50;pp50;pp50;w01019;w02010;w21010;e10110999;");
        safe.rowOf(0);
        safe.due("bestDriver", 5);

        PromisesTest y = new PromisesTest(19, TOWN, ERRANDS);
        y.rowOf(0, 1, 2, 3);
        y.due("leftOut", -9);
        y.rowOf(3, 1);
        y.due("leftOut", 3);
        y.rowOf(9, 3, 1, 3);
        y.due("leftOut", 3);
        y.rowOf();
        y.due("leftOut", -9);
        // Either of two alike in the way of a third: the first in the ROW.
        PromisesTest z = new PromisesTest(19, "pp50;pp10;w01010;e10101999;e10101999;e00199999;");
        z.rowOf(1, 0, 2);
        z.due("leftOut", 1);
        z.rowOf(0, 1, 2);
        z.due("leftOut", 0);
    }

    private static void runOnAndPush() {
        PromisesTest none = new PromisesTest(20);
        none.due("runOn", -3);
        none.due("push", -3);
        PromisesTest x = new PromisesTest(20, TOWN, ERRANDS);
        x.rowOf(0, 1);
        x.due("runOn", 0);
        x.due("set 0 0", 3);
        x.due("runOn", 12);
        x.due("count 4", 12);
        x.due("count 5", 0);
        PromisesTest most = new PromisesTest(20, "pp50;pp00;w01010;e16001999;e10199999;f000;");
        most.rowOf(0, 1);
        most.due("runOn", 60);

        // Three PUSHERS are at PLACE 4 already, HOME starts anyway; 1 has 8 tenths, with one more 10.
        PromisesTest y = new PromisesTest(21, TOWN, ERRANDS);
        y.rowOf(0, 1);
        y.due("push", 1);
        y.due("place 1 2", 0);
        y.rowOf(1, 0);
        y.due("push", -9);
        y.rowOf(2, 0);
        y.due("push", -9);
        // NARROW: one more is 3 for the STARTS and 2 for the push.
        PromisesTest z = new PromisesTest(21, "pp10;pn20;w01010;e10101999;e01099999;");
        z.rowOf(0, 1);
        z.due("push", 1);
        z.due("set 2 0", 0);
        z.due("push", 1);
        PromisesTest full = new PromisesTest(21, "pk13;e00101999;");
        full.rowOf(0);
        full.due("place 0 4", 6);
        full.due("push", -9);
        // HOME and PLACE 1 gain the same: the first.
        PromisesTest even = new PromisesTest(21, "pp20;pp20;w01010;e10100999;e00110999;");
        even.rowOf(0, 1);
        even.due("push", 0);
        // One more is 4 for 2 at HOME, but 9 for 4 at PLACE 1; two more would be 6 and 10.
        PromisesTest one = new PromisesTest(21, "pp10;pn50;w01010;e10100999;e00110999;");
        one.rowOf(0, 1);
        one.due("push", 1);
    }

    private static void hillAndMend() {
        PromisesTest none = new PromisesTest(22);
        none.due("hill 2", REFUSED_OTHER);
        none.due("hill -1", REFUSED_OTHER);
        none.due("hill 0", REFUSED_STATE);
        none.due("mend -1 100", -4);
        none.due("mend 0 0", -4);
        none.due("mend 1000 0", -4);
        none.due("mend 1000 1", -6);
        none.due("mend 0 100", -6);
        none.due("mend 999 99", -3);
        none.due("mendFrom -1", -4);
        none.due("mendFrom 1000", -6);
        none.due("mendFrom 999", -3);
        PromisesTest x = new PromisesTest(22, "pp30;pp50;w01050;e11007100;");
        x.dueFraction("hill", 0, 1);
        x.rowOf(0);
        x.dueFraction("worth", 21, 5);
        x.dueFraction("hill", 14, 5);
        x.due("place 0 3", 6);
        x.due("mend 14 5", 1);
        x.due("mend 14 4", 0);
        x.due("mendFrom 0", 1);
        x.due("mendFrom 14", 5);
        x.due("mendFrom 15", 6);
        x.due("mendFrom 277", 99);
        x.due("mendFrom 278", -9);
        x.due("mend 278 99", 0);
        // One who runs on at a loss, the likelier the dearer: below 0 by 0.4 * (7 - 10).
        x.due("set 2 1", 0);
        x.dueFraction("hill", -6, 5);
        x.due("mend 0 1", 0);
        x.due("mendFrom 0", -9);
        // A PUSHER with none who push.
        x.due("set 2 3", 1);
        x.dueFraction("hill", 14, 5);
        x.due("mendFrom 14", 5);
        // At an ERRAND at HOME, too: 10 + 10, for 0.6 * 10 + 0.36 * 10.
        PromisesTest y = new PromisesTest(22, "pp30;pp20;w01050;e00110999;e10110999;e10110999;");
        y.rowOf(0, 1);
        y.dueFraction("hill", 52, 5);
        // MEND goes for PLACE 1, too: 30, for 0.6 * 10 + 0.36 * 10 + 0.144 * 10; HILL leaves it: 10 + 10 + 4.
        y.rowOf(0, 1, 2);
        y.dueFraction("worth", 276, 25);
        y.dueFraction("hill", 324, 25);
        y.due("mendFrom 18", 1);
        y.due("mendFrom 19", 2);
        y.due("mend 19 1", 0);
        // A SLOPER leaves nothing out once it is mended.
        y.due("set 2 4", 0);
        y.dueFraction("worth", 0, 1);
        y.dueFraction("hill", 10, 1);
        y.due("mendFrom 30", 1);
        y.due("mendFrom 31", 2);
    }

    private static void onFootAndOnTheWay() {
        PromisesTest x = new PromisesTest(25, TOWN);
        x.due("onFoot 1 2 0", 0);
        x.due("onFoot 1 2 1", 180);
        x.due("onFoot 2 4 0", 3);
        x.due("onFoot 4 2 1", 110);
        x.due("onFoot 3 3 0", 3);
        x.due("onFoot 3 3 1", 0);
        x.due("onFoot 1 1 1", 100);
        x.due("onFoot 6 0 2", -1);
        x.due("onFoot 0 -1 2", -1);
        x.due("onFoot 0 0 2", -2);
        x.due("onFoot 0 0 -1", -2);
        PromisesTest apart = new PromisesTest(25, "pp50;pp50;pp40;pp40;w01050;w23050;");
        apart.due("onFoot 0 1 0", 0);
        apart.due("onFoot 1 0 1", 50);
        apart.due("onFoot 0 2 0", -9);
        apart.due("onFoot 2 3 0", -9);
        apart.due("onFoot 2 3 1", -9);
        PromisesTest far = new PromisesTest(25, "pp50;pp50;pp50;w01600;");
        far.due("onFoot 1 2 0", -9);
        far.due("onFoot 2 1 1", -9);
        // On foot the LIGHTS do not count: LEGS, not SAFE.
        PromisesTest lights = new PromisesTest(25, "pp40;pp50;pp40;w01019;w02010;w21010;");
        lights.due("onFoot 0 0 1", 20);
        lights.due("onFoot 0 1 1", 10);
        lights.due("onFoot 1 0 1", 10);
        lights.due("onTheWay 1 0 1", 1);
        lights.due("onTheWay 0 0 1", 1);
        lights.due("onTheWay 2 0 1", 0);

        PromisesTest y = new PromisesTest(26, TOWN);
        y.due("onTheWay 1 0 2", 1);
        y.due("onTheWay 3 0 2", 0);
        y.due("onTheWay 0 0 2", 1);
        y.due("onTheWay 2 0 2", 1);
        y.due("onTheWay 4 5 0", 1);
        y.due("onTheWay 1 5 0", 0);
        y.due("onTheWay 2 2 2", 1);
        y.due("onTheWay 1 2 2", 0);
        y.due("onTheWay 6 0 0", -1);
        y.due("onTheWay 0 6 0", -1);
        y.due("onTheWay 0 0 -1", -1);
        // As quick, though with more LIGHTS: on some LEG with the least MINUTES.
        PromisesTest z = new PromisesTest(26, "pp50;pp50;pp50;pp50;w02100;w01059;w12059;");
        z.due("leg 0 2 1", 0);
        z.due("onTheWay 1 0 2", 1);
        z.due("onTheWay 0 0 3", 0);
        z.due("onTheWay 3 0 2", 0);
    }

    private static void rowClearJudge() {
        PromisesTest x = new PromisesTest(27);
        x.due("row -1", -4);
        x.due("row 10", -6);
        for (int n = 1; n <= 10; n++) {
            x.due("row " + (n - 1), n);
        }
        x.due("row 0", -6);
        x.due("row -1", -4);
        x.due("count 7", 10);
        x.due("judge", -3);
        x.due("clear", 10);
        x.due("clear", 0);
        x.due("row 9", 1);
        x.due("clear", 1);

        PromisesTest y = new PromisesTest(29, TOWN, ERRANDS);
        y.due("judge", -9);
        y.rowOf(0, 1);
        y.due("judge", -9);
        y.rowOf(0, 1, 2, 3);
        y.due("judge", 3);
        y.rowOf(0, 1, 0, 3);
        y.due("judge", 2);
        y.rowOf(0, 5, 1);
        y.due("judge", 1);
        y.rowOf(3, 3);
        y.due("judge", 0);
        y.due("count 7", 2);
        y.rowOf(0);
        y.due("set 2 4", 0);
        y.due("judge", 0);
        y.due("set 2 3", 4);
        y.due("judge", -9);
    }

    private static void lots() {
        PromisesTest none = new PromisesTest(30);
        none.due("lots 0 0", -4);
        none.due("lots 21 0", -6);
        none.due("lots 20 0", -3);
        PromisesTest x = new PromisesTest(30, UNSURE);
        x.rowOf(0);
        // DRAWS from 7: 7 | 5 6 0 7, HOME | 7 | 5 6 4 | 5 2 | 1 2 | 1 1 | 0 2 | 4 2 | 7 | 5 1
        x.due("lots 1 7", 0);
        x.due("lots 2 7", 1);
        x.due("lots 11 7", 1);
        // From -5: 3 1 | 0 9 5 | 0 9 9 | 4 4 3 6, HOME
        x.due("lots 3 -5", 0);
        x.due("lots 4 -5", 1);
        // From 0: 3 7 6 | 9 | 9 | 0 4 7 | 4 5 7 | 9 | 3 4 3 6, HOME
        x.due("lots 6 0", 0);
        x.due("lots 7 0", 1);
        // A RUNNER, from 7: 7 | 5 6 0 | 7 | 7 | 5 6 4, HOME
        x.due("set 2 1", 0);
        x.due("lots 4 7", 0);
        x.due("lots 5 7", 1);
        // No DRAW for STARTS 10, from 7: 7 5 | 6 0 7, HOME | 7 5 | 6 4 | 5 2 1 | 2 | 1 | 1 | 0 | 2 | 4 2 7, HOME
        x.due("set 2 0", 1);
        x.due("slope 0 5", 3);
        x.due("lots 1 7", 0);
        x.due("lots 2 7", 1);
        x.due("lots 10 7", 1);
        x.due("lots 11 7", 2);
        x.due("slope 0 0", 5);
        x.due("lots 20 7", 0);
        x.due("slope 0 9", 0);
        x.rowOf();
        x.due("lots 20 7", 20);
        // No DRAW for STALLS 0, from 7: 7 | 5 6 | 0 7 | 7 | 5 6 | 4 5 | 2 1, HOME
        PromisesTest noLights = new PromisesTest(30, "pp30;pp20;w01050;e10510100;");
        noLights.rowOf(0);
        noLights.due("lots 6 7", 0);
        noLights.due("lots 7 7", 1);
        // STARTS 1, from 7: 7 | 5 | 6 | 0, HOME
        PromisesTest hardly = new PromisesTest(30, "pb00;");
        hardly.due("lots 3 7", 0);
        hardly.due("lots 4 7", 1);
    }

    private static void imageAndOn() {
        PromisesTest x = new PromisesTest(31, TOWN);
        x.due("on", -3);
        x.due("image", 6);
        x.spell(ERRANDS);
        x.due("town", 5);
        x.due("set 2 3", 0);
        x.due("slope 0 0", 3);
        x.due("row 0", 1);
        x.fault("pp55;", -2000);
        x.fault("pp00;w36010;", 2);
        x.due("letter 112", 1);
        x.due("leg 3 6 0", 1);
        x.due("place 9 0", -1);
        x.due("on", 6);
        x.due("count 0", 6);
        x.due("count 1", 7);
        x.due("count 2", 0);
        x.due("count 3", 1);
        x.due("count 4", 10);
        x.due("count 5", 0);
        x.due("count 7", 1);
        x.due("count 8", 1);
        x.due("count 11", 1);
        x.due("count 13", 1);
        x.due("place 0 1", 3);
        x.due("leg 3 6 0", -1);
        x.due("town", -1001);
        // A PLACE that comes anew is not joined to what its forerunner was.
        x.fault("pp00;", 1);
        x.due("leg 3 6 0", -9);
        x.due("day 1", 0);
        x.due("on", 6);
        x.due("image", 6);
        x.fault("w13010;", 1);
        x.due("leg 1 3 0", 1);
        x.due("on", 6);
        x.due("leg 1 3 0", 18);

        PromisesTest y = new PromisesTest(32);
        y.due("on", -3);
        y.due("image", 0);
        y.spell(TOWN);
        y.due("town", 13);
        y.due("on", 0);
        y.due("place 0 0", -1);
        y.due("count 1", 0);
    }

    private static void count() {
        PromisesTest x = new PromisesTest(33, TOWN, ERRANDS);
        x.due("row 4", 1);
        x.due("letter 0", 1);
        x.due("set 2 5", 0);
        int[] counts = {6, 7, 4, 3, 12, 5, 108, 1, 1};
        for (int what = 0; what < counts.length; what++) {
            x.due("count " + what, counts[what]);
        }
        for (int what : new int[] {-1, 9, 10, 17, -2147483648, 2147483647}) {
            x.due("count " + what, -9);
        }
        x.due("place 9 9", -1);
        x.due("likely 2", REFUSED_OTHER);
        x.due("set 9 0", -2);
        x.due("on", -3);
        x.due("row -1", -4);
        x.due("row 10", -6);
        int[] refusals = {1, 2, 1, 1, 0, 1};
        for (int i = 0; i < refusals.length; i++) {
            x.due("count " + (11 + i), refusals[i]);
        }
    }

    /** Every row filled to its end: eight PLACES on a line, fourteen WAYS, five ERRANDS, ten numbers. */
    private static void fullTown() {
        PromisesTest x = new PromisesTest(10, "pp50;pp50;pp50;pp50;pp50;pp50;pp50;pp50;",
            "w01010;w12010;w23010;w34010;w45010;w56010;w67010;w02090;w03090;w04090;w05090;w06090;w07090;",
            "w13090;e10110999;e20110999;e30110999;e40110999;e50110999;");
        x.rowOf(0, 1, 2, 3, 4, 0, 1, 2, 3, 4);
        x.due("day 0", 15);
        x.due("day 1", 31);
        x.dueFraction("likely", 1, 1);
        x.dueFraction("worth", 50, 1);
        for (int by = 0; by < 3; by++) {
            for (int i = 0; i < 5; i++) {
                x.due("best " + by + " " + i, i);
            }
            x.due("bestMinutes " + by, 15);
        }
        x.due("sure", 31);
        x.due("bestDriver", 0);
        x.due("leftOut", -9);
        x.due("runOn", 0);
        x.due("push", -9);
        x.dueFraction("hill", 0, 1);
        x.due("mend 0 1", 1);
        x.due("mend 1 99", 0);
        x.due("mendFrom 1", -9);
        x.due("leg 0 7 0", 7);
        x.due("onFoot 7 7 0", 7);
        x.due("onTheWay 6 7 5", 1);
        x.due("judge", 5);
        x.due("lots 20 3", 20);
        x.due("count 6", 50);
        x.fault("w12010;", -2000);
        x.due("image", 8);
        x.due("on", 8);
    }
}
