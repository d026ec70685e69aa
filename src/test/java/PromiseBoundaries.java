/** What each promise itself says of its edges; what is refused stands in RefusalBoundaries as well. */
final class PromiseBoundaries {
    private static final int LEAST = Integer.MIN_VALUE;
    private static final int GREATEST = Integer.MAX_VALUE;
    private static final String EIGHT = "pp50;".repeat(8);
    /** Two PLACES and an ERRAND: HOME may not start, nor PLACE 1; LIGHTS between them. */
    private static final String SMALL = "pp32;pn21;w01053;e10510100;";

    private PromiseBoundaries() {
    }

    static void lookAtAll() {
        newObject();
        letter();
        town();
        place();
        slope();
        errand();
        set();
        legAndSafe();
        day();
        likelyAndWorth();
        best();
        bestMinutes();
        bestFractions();
        sureAndBestDriver();
        leftOutRunOnPush();
        hill();
        mend();
        onFoot();
        onTheWay();
        row();
        clear();
        judge();
        lots();
        image();
        on();
        count();
    }

    /** Numbers that are no what, no part or no KIND of BEST: below 0, and from the first one that is too great. */
    private static int[] outside(int first) {
        return new int[] {-1, LEAST, first, first + 1, GREATEST};
    }

    private static void newObject() {
        About x = new About(1, "No PLACES.");
        int[] counts = {0, 0, 0, 1, 10, 0, 0, 0, 0};
        for (int what = 0; what < counts.length; what++) {
            x.due("count " + what, counts[what]);
        }
        for (int what = 11; what <= 16; what++) {
            x.due("count " + what, 0);
        }
        x.due("place 0 0", -1);
        x.due("errand 0 0", -1);
        x.due("day 0", -3);
        x.due("on", -3);
        x.due("clear", 0);
        x.due("image", 0);
        x.due("town", -1000);
    }

    private static void letter() {
        About comes = new About(2, "A letter (0 .. 255) comes: how many there are.");
        comes.due("letter 0", 1);
        comes.due("letter 255", 2);
        for (int n = 3; n <= 96; n++) {
            comes.due("letter 48", n);
        }
        comes.due("count 8", 96);
        comes.due("town", -1000);
        comes.due("letter 112", 1);

        String refused = "-4; -6 (255; 96, too).";
        About number = new About(2, refused);
        number.due("letter -1", -4);
        number.due("letter " + LEAST, -4);
        number.due("letter 256", -6);
        number.due("letter " + GREATEST, -6);
        number.due("count 8", 0);
        number.due("count 14", 2);
        number.due("count 16", 2);
        number.due("letter 100", 1);
        About full = new About(2, refused);
        full.spell("d0;".repeat(32));
        full.due("letter 0", -6);
        full.due("letter 255", -6);
        full.due("letter 256", -6);
        full.due("letter -1", -4);
        full.due("count 8", 96);
        full.due("count 14", 1);
        full.due("count 16", 3);
        full.due("town", 32);
        full.due("letter 0", 1);
    }

    private static void town() {
        String sentence = "The letters become a TOWN, and are no more: how many STATEMENTS;";
        About one = new About(3, sentence);
        one.town("pp50;", 1);
        one.due("count 8", 0);
        one.due("count 0", 1);
        one.due("town", -1000);
        one.due("count 0", 1);
        About most = new About(3, sentence);
        most.town("d5;".repeat(32), 32);
        most.due("count 8", 0);
        most.due("count 5", 5);
        most.due("letter 255", 1);

        String faults = "the FAULT (nothing is counted).";
        About fault = new About(3, faults, SMALL);
        fault.town("", -1000);
        fault.town("p", -1001);
        fault.town("d6;", -2000);
        fault.town("d0;".repeat(31) + "d6;", -2093);
        fault.town("pp00;".repeat(19) + "p", -1096);
        fault.due("count 8", 0);
        for (int what = 11; what <= 16; what++) {
            fault.due("count " + what, 0);
        }
    }

    private static void place() {
        String sentence =
            "Of a PLACE: 0 KIND (0 p, 1 w, 2 b, 3 h, 4 k, 5 n), 1 SLOPE, 2 PUSHERS, 3 STARTS, 4 PUSHED.";
        int[][] due = {{0, 1, 0, 2, 2}, {1, 2, 1, 2, 4}, {2, 3, 2, 7, 10}, {3, 4, 3, 10, 10}, {4, 5, 0, 4, 4},
            {5, 6, 1, 7, 9}, {0, 0, 0, 0, 0}, {3, 0, 3, 1, 7}};
        About x = new About(4, sentence, "pp10;pw21;pb32;ph43;pk50;pn61;pp00;ph03;");
        for (int place = 0; place < 8; place++) {
            for (int what = 0; what < 5; what++) {
                x.due("place " + place + " " + what, due[place][what]);
            }
        }
        About refused = new About(4, "-1; -2.", SMALL);
        for (int place : outside(2)) {
            refused.due("place " + place + " 0", -1);
            refused.due("place " + place + " 5", -1);
        }
        for (int what : outside(5)) {
            refused.due("place 0 " + what, -2);
            refused.due("place 1 " + what, -2);
        }
        refused.due("place 8 0", -1);
        About full = new About(4, "-1; -2.", EIGHT);
        full.due("place 7 4", 10);
        full.due("place 8 4", -1);
    }

    private static void slope() {
        About x = new About(5, "SLOPE becomes v: what it was.", "pp30;pp40;");
        x.due("slope 0 0", 3);
        x.due("slope 0 9", 0);
        x.due("slope 0 9", 9);
        x.due("place 0 1", 9);
        x.due("place 0 3", 10);
        x.due("place 1 1", 4);
        x.due("slope 1 5", 4);
        x.due("place 0 1", 9);
        String refusals = "-1; -4; -6 9.";
        About refused = new About(5, refusals, SMALL);
        for (int place : outside(2)) {
            refused.due("slope " + place + " 0", -1);
            refused.due("slope " + place + " -1", -1);
            refused.due("slope " + place + " 10", -1);
        }
        refused.due("slope 0 -1", -4);
        refused.due("slope 0 " + LEAST, -4);
        refused.due("slope 0 10", -6);
        refused.due("slope 0 " + GREATEST, -6);
        refused.due("place 0 1", 3);
        About full = new About(5, refusals, EIGHT);
        full.due("slope 7 0", 5);
        full.due("slope 8 0", -1);
        new About(5, refusals).due("slope 0 0", -1);
    }

    private static void errand() {
        About x = new About(6, "Of an ERRAND: 0 its PLACE, 1 LASTS, 2 WORTH, 3 TILL.",
            "pp50;pp50;e10203004;e00100000;e16099999;e00506007;e10809010;");
        int[][] due = {{1, 2, 3, 4}, {0, 1, 0, 0}, {1, 60, 99, 999}, {0, 5, 6, 7}, {1, 8, 9, 10}};
        for (int errand = 0; errand < 5; errand++) {
            for (int what = 0; what < 4; what++) {
                x.due("errand " + errand + " " + what, due[errand][what]);
            }
        }
        x.due("errand 5 0", -1);
        About refused = new About(6, "-1; -2.", SMALL);
        for (int errand : outside(1)) {
            refused.due("errand " + errand + " 0", -1);
            refused.due("errand " + errand + " 4", -1);
        }
        for (int what : outside(4)) {
            refused.due("errand 0 " + what, -2);
        }
        new About(6, "-1; -2.").due("errand 0 0", -1);
    }

    private static void set() {
        String sentence = "FUEL (what 0), RUN (1), the DRIVER (2) becomes v: what it was.";
        String refusals = "-2; -4; -6 (9; 60; 5).";
        int[] first = {1, 10, 0};
        int[] most = {9, 60, 5};
        for (int what = 0; what <= 2; what++) {
            About x = new About(7, sentence);
            x.due("set " + what + " 0", first[what]);
            x.due("set " + what + " " + most[what], 0);
            x.due("set " + what + " " + most[what], most[what]);
            for (int other = 0; other <= 2; other++) {
                x.due("count " + (3 + other), other == what ? most[other] : first[other]);
            }
            About refused = new About(7, refusals);
            refused.due("set " + what + " -1", -4);
            refused.due("set " + what + " " + LEAST, -4);
            refused.due("set " + what + " " + (most[what] + 1), -6);
            refused.due("set " + what + " " + GREATEST, -6);
            refused.due("count " + (3 + what), first[what]);
        }
        About other = new About(7, refusals);
        for (int what : outside(3)) {
            other.due("set " + what + " 0", -2);
            other.due("set " + what + " -1", -2);
            other.due("set " + what + " 61", -2);
        }
    }

    private static void legAndSafe() {
        String[] names = {"leg", "safe"};
        String[] sentences = {"A LEG: MINUTES (what 0), STALLS (1); -9 none.", "SAFE likewise."};
        String[] refusals = {"-1 either; -2.", "SAFE likewise."};
        int[][] due = {{1, 9}, {120, 0}};
        for (int i = 0; i < 2; i++) {
            About x = new About(8 + i, sentences[i], "pp50;pp50;pp50;pp50;w01019;w02600;w21600;");
            for (int what = 0; what <= 1; what++) {
                x.due(names[i] + " 0 1 " + what, due[i][what]);
                x.due(names[i] + " 1 0 " + what, due[i][what]);
                x.due(names[i] + " 3 3 " + what, 0);
                x.due(names[i] + " 0 3 " + what, -9);
                x.due(names[i] + " 3 0 " + what, -9);
            }
            // No way is no refusal: none is counted.
            for (int what = 11; what <= 16; what++) {
                x.due("count " + what, 0);
            }
            About refused = new About(8 + i, refusals[i], SMALL);
            for (int place : outside(2)) {
                refused.due(names[i] + " " + place + " 0 0", -1);
                refused.due(names[i] + " 0 " + place + " 0", -1);
                refused.due(names[i] + " " + place + " 0 2", -1);
                refused.due(names[i] + " 0 " + place + " 2", -1);
            }
            for (int what : outside(2)) {
                refused.due(names[i] + " 0 1 " + what, -2);
                refused.due(names[i] + " 0 0 " + what, -2);
            }
            new About(8 + i, refusals[i]).due(names[i] + " 0 0 0", -1);
        }
    }

    private static void day() {
        String sentence = "THE DAY: HOME AT (what 0), ERRANDS done (1, bits), FUEL in all (2).";
        About bits = new About(10, sentence, "pp50;", "e00110999;".repeat(5), "f910;d1;");
        for (int errand = 0; errand < 5; errand++) {
            bits.rowOf(errand);
            bits.due("day 0", 1);
            bits.due("day 1", 1 << errand);
            bits.due("day 2", 9);
        }
        bits.rowOf();
        bits.due("day 1", 0);
        bits.rowOf(4, 3, 2, 1, 0);
        bits.due("day 0", 5);
        bits.due("day 1", 31);
        bits.due("day 2", 45);
        About fuel = new About(10, sentence, "pp00;", "e06000999;".repeat(5), "f960;d1;");
        fuel.rowOf(0, 1, 2, 3, 4);
        fuel.due("day 0", 300);
        // In all, however unlikely it comes there.
        fuel.due("day 2", 2700);
        noSuchOrNoPlaces(10, "-2; -3 there are no PLACES.", "day", 3);
    }

    /** One number is asked for: another is refused by -2, with PLACES and without, and a right one without by -3. */
    private static void noSuchOrNoPlaces(int promise, String sentence, String name, int first) {
        boolean isLong = name.equals("likely") || name.equals("worth") || name.equals("hill");
        About without = new About(promise, sentence);
        About with = new About(promise, sentence, SMALL);
        for (int number : outside(first)) {
            without.due(name + " " + number, isLong ? About.LONG_OTHER : -2);
            with.due(name + " " + number, isLong ? About.LONG_OTHER : -2);
        }
        for (int number = 0; number < first; number++) {
            without.due(name + " " + number, isLong ? About.LONG_STATE : -3);
        }
        without.due("count 12", outside(first).length);
        without.due("count 13", first);
        with.due("count 12", outside(first).length);
        with.due("count 13", 0);
    }

    private static void likelyAndWorth() {
        String likely = "THE DAY: LIKELY, part 0 above, 1 below the line.";
        About part = new About(11, likely, SMALL);
        part.due("likely 0", 3);
        part.due("likely 1", 5);
        // 0.6 * 0.7 * 0.2 * 0.7 = 588 / 10000.
        part.rowOf(0);
        part.due("likely 0", 147);
        part.due("likely 1", 2500);
        About ends = new About(11, likely, "pp00;");
        ends.dueFraction("likely", 0, 1);
        ends.due("slope 0 9", 0);
        ends.dueFraction("likely", 1, 1);
        noSuchOrNoPlaces(11, "Refused as told: -2; -3 there are no PLACES.", "likely", 2);

        String worth = "THE DAY: WORTH in the mean, likewise (may be below 0).";
        About mean = new About(12, worth, SMALL);
        mean.dueFraction("worth", 0, 1);
        mean.rowOf(0);
        mean.dueFraction("worth", 21, 5);
        // 0.42 * (10 - 5 * 9); 0.42 * (10 - 5 * 2) is nothing: 0 above 1.
        mean.due("set 2 1", 0);
        mean.due("set 0 9", 1);
        mean.dueFraction("worth", -147, 10);
        mean.due("set 0 2", 9);
        mean.dueFraction("worth", 0, 1);
        noSuchOrNoPlaces(12, worth, "worth", 2);
    }

    private static void best() {
        About x = new About(13, "BEST by 0, 1, 2: its i-th ERRAND.", "pp50;",
            "e01010040;e01010030;e01010020;e01010010;e01010000;");
        for (int i = 0; i < 5; i++) {
            x.due("best 0 " + i, i);
            x.due("best 1 " + i, i);
            x.due("best 2 " + i, 4 - i);
        }
        String refusals = "-2; -3 there are no PLACES; -1 no such.";
        for (int i : outside(5)) {
            x.due("best 2 " + i, -1);
        }
        About without = new About(13, refusals);
        About with = new About(13, refusals, SMALL);
        About noErrand = new About(13, refusals, "pp50;");
        for (int by : outside(3)) {
            for (int i : new int[] {0, 1, -1}) {
                without.due("best " + by + " " + i, -2);
                with.due("best " + by + " " + i, -2);
            }
        }
        for (int by = 0; by < 3; by++) {
            with.due("best " + by + " 0", 0);
            noErrand.due("best " + by + " 0", -1);
            without.due("best " + by + " 0", -3);
            for (int i : outside(1)) {
                without.due("best " + by + " " + i, -3);
                with.due("best " + by + " " + i, -1);
            }
        }
        with.due("count 11", 15);
        with.due("count 12", 15);
    }

    private static void bestMinutes() {
        About x = new About(14, "BEST: HOME AT.", EIGHT, "w01600;w12600;w23600;w34600;w45600;w56600;w67600;",
            "e76010999;e06010999;");
        // At HOME first: 60 + 420 + 60 + 420; else 420 + 60 + 420 + 60.
        for (int by = 0; by < 3; by++) {
            x.due("bestMinutes " + by, 960);
        }
        new About(14, "BEST: HOME AT.", "pp50;").due("bestMinutes 0", 0);
        noSuchOrNoPlaces(14, "-2; -3.", "bestMinutes", 3);
    }

    private static void bestFractions() {
        About likely = new About(15, "BEST: LIKELY.", "pp50;pp10;w01010;e10110001;e00510999;");
        likely.dueFraction("bestLikely 0", 1, 1);
        likely.dueFraction("bestLikely 1", 1, 1);
        likely.dueFraction("bestLikely 2", 1, 5);
        About worth = new About(16, "BEST: WORTH in the mean, likewise.", "pp50;pp10;w01010;e10110001;e00510999;");
        worth.dueFraction("bestWorth 0", 10, 1);
        worth.dueFraction("bestWorth 1", 10, 1);
        worth.dueFraction("bestWorth 2", 12, 1);
        worth.due("set 2 1", 0);
        worth.due("set 0 9", 1);
        // Both kept running: 10 - 9 and 10 - 45; late at PLACE 1: 10 - 45 alone.
        worth.dueFraction("bestWorth 2", -34, 1);
        worth.dueFraction("bestWorth 1", -34, 1);
        worth.dueFraction("bestWorth 0", -35, 1);
        String[] names = {"bestLikely", "bestWorth"};
        String[] refusals = {"Refused as told: -2 either; -3.", "BEST: WORTH in the mean, likewise."};
        for (int k = 0; k < 2; k++) {
            About without = new About(15 + k, refusals[k]);
            About with = new About(15 + k, refusals[k], SMALL);
            for (int by : outside(3)) {
                for (int part : new int[] {0, 1, 2, -1}) {
                    without.due(names[k] + " " + by + " " + part, About.LONG_OTHER);
                    with.due(names[k] + " " + by + " " + part, About.LONG_OTHER);
                }
            }
            for (int by = 0; by < 3; by++) {
                for (int part : outside(2)) {
                    without.due(names[k] + " " + by + " " + part, About.LONG_OTHER);
                    with.due(names[k] + " " + by + " " + part, About.LONG_OTHER);
                }
                without.due(names[k] + " " + by + " 0", About.LONG_STATE);
                without.due(names[k] + " " + by + " 1", About.LONG_STATE);
            }
            with.due("count 12", 20 + 15);
            without.due("count 13", 6);
        }
    }

    /** Refused without PLACES and only so: a single PLACE is enough. */
    private static void noPlaces(int promise, String sentence, String call, long withOne) {
        About x = new About(promise, sentence);
        x.due(call, -3);
        x.due("count 13", 1);
        x.town("pp00;", 1);
        x.due(call, withOne);
        x.due("count 13", 1);
    }

    private static void sureAndBestDriver() {
        About sure = new About(17, "SURE (bits).", "pp50;pb40;w01010;", "e00110000;e10110999;e00110000;e10110000;e00110000;");
        sure.due("sure", 1 + 4 + 16);
        sure.due("slope 1 5", 4);
        sure.due("sure", 1 + 2 + 4 + 16);
        sure.due("slope 0 4", 5);
        sure.due("sure", 0);
        noPlaces(17, "-3 there are no PLACES.", "sure", 0);

        About driver = new About(18, "BEST DRIVER.", "pp12;e00110999;");
        driver.due("bestDriver", 0);
        driver.rowOf(0);
        driver.due("bestDriver", 3);
        driver.due("count 5", 0);
        noPlaces(18, "-3.", "bestDriver", 0);
    }

    private static void leftOutRunOnPush() {
        About left = new About(19, "LEFT OUT; -9.", "pp50;pp00;w01010;e10100999;e00110999;");
        left.due("leftOut", -9);
        left.rowOf(1);
        left.due("leftOut", -9);
        left.rowOf(0, 1);
        left.due("leftOut", 0);
        left.due("count 7", 2);
        left.rowOf(1, 0);
        left.due("leftOut", -9);
        noPlaces(19, "-3.", "leftOut", -9);

        About run = new About(20, "RUN ON.", "pp50;pp00;w01010;e16001999;e00199999;");
        run.due("runOn", 0);
        run.rowOf(0, 1);
        run.due("runOn", 60);
        run.due("count 4", 10);
        noPlaces(20, "-3.", "runOn", 0);

        About push = new About(21, "PUSH; -9.", "pp50;pp02;w01010;e10100999;e00110999;");
        push.due("push", -9);
        push.rowOf(0, 1);
        push.due("push", 1);
        push.due("place 1 2", 2);
        push.due("place 1 4", 4);
        noPlaces(21, "-3.", "push", -9);
    }

    private static void hill() {
        About x = new About(22, "HILL.", "pp30;pp50;w01010;e11007999;");
        x.due("hill 0", 0);
        x.due("hill 1", 1);
        x.rowOf(0);
        x.due("hill 0", 14);
        x.due("hill 1", 5);
        // Below 0: 0.4 * (7 - 10).
        x.due("set 2 1", 0);
        x.due("hill 0", -6);
        x.due("hill 1", 5);
        noSuchOrNoPlaces(22, "Refused as told: -2; -3.", "hill", 2);
    }

    private static void mend() {
        // 2.8 a day.
        About x = new About(23, "MEND: 1, 0.", "pp30;pp50;w01010;e11007999;");
        x.due("mend 0 1", 1);
        x.due("mend 1 99", 0);
        x.rowOf(0);
        x.due("mend 14 5", 1);
        x.due("mend 15 5", 0);
        x.due("mend 14 4", 0);
        x.due("mend 277 99", 1);
        x.due("mend 278 99", 0);
        x.due("mend 999 99", 0);
        String refusals = "-4 (m below 0, n below 1); -6 (999; 99); -3.";
        About without = new About(23, refusals);
        About with = new About(23, refusals, SMALL);
        for (About object : new About[] {without, with}) {
            for (String below : new String[] {"-1 1", LEAST + " 1", "0 0", "0 -1", "0 " + LEAST, "-1 0", "-1 100", "1000 0",
                GREATEST + " " + LEAST, LEAST + " " + GREATEST}) {
                object.due("mend " + below, -4);
            }
            for (String above : new String[] {"1000 1", GREATEST + " 99", "0 100", "999 " + GREATEST, "1000 100"}) {
                object.due("mend " + above, -6);
            }
            object.due("count 14", 10);
            object.due("count 16", 5);
        }
        without.due("mend 0 1", -3);
        without.due("mend 999 99", -3);
        with.due("mend 0 1", 1);
        with.due("mend 999 99", 0);

        About from = new About(24, "MEND: the fewest days; -9.", "pp30;pp50;w01010;e11007999;");
        from.due("mendFrom 0", 1);
        from.due("mendFrom 1", -9);
        from.rowOf(0);
        from.due("mendFrom 0", 1);
        from.due("mendFrom 2", 1);
        from.due("mendFrom 3", 2);
        from.due("mendFrom 14", 5);
        from.due("mendFrom 15", 6);
        from.due("mendFrom 277", 99);
        from.due("mendFrom 278", -9);
        from.due("mendFrom 999", -9);
        About none = new About(24, "-4; -6 999; -3.");
        none.due("mendFrom -1", -4);
        none.due("mendFrom " + LEAST, -4);
        none.due("mendFrom 1000", -6);
        none.due("mendFrom " + GREATEST, -6);
        none.due("mendFrom 0", -3);
        none.due("mendFrom 999", -3);
        About some = new About(24, "-4; -6 999; -3.", SMALL);
        some.due("mendFrom -1", -4);
        some.due("mendFrom 1000", -6);
        some.due("mendFrom 999", -9);
    }

    private static void onFoot() {
        About x = new About(25, "ON FOOT: the PLACE (what 0), MINUTES (1); -9.", "pp50;pb40;pp50;pp00;w01010;w12600;");
        x.due("onFoot 1 1 0", 0);
        x.due("onFoot 1 1 1", 20);
        x.due("onFoot 0 0 1", 0);
        x.due("onFoot 1 3 0", -9);
        x.due("onFoot 3 3 1", -9);
        x.due("onFoot 2 1 0", 2);
        x.due("onFoot 1 2 1", 600);
        for (int what = 11; what <= 16; what++) {
            x.due("count " + what, 0);
        }
        About refused = new About(25, "-1 either; -2.", SMALL);
        for (int place : outside(2)) {
            refused.due("onFoot " + place + " 0 0", -1);
            refused.due("onFoot 0 " + place + " 1", -1);
            refused.due("onFoot " + place + " 0 2", -1);
            refused.due("onFoot 0 " + place + " -1", -1);
        }
        for (int what : outside(2)) {
            refused.due("onFoot 0 1 " + what, -2);
        }
        new About(25, "-1 either; -2.").due("onFoot 0 0 0", -1);
    }

    private static void onTheWay() {
        About x = new About(26, "ON THE WAY.", "pp50;pp50;pp50;w01010;w12010;w02030;");
        x.due("onTheWay 1 0 2", 1);
        x.due("onTheWay 2 0 1", 0);
        x.due("onTheWay 0 0 0", 1);
        About any = new About(26, "-1 any.", SMALL);
        for (int place : outside(2)) {
            any.due("onTheWay " + place + " 0 1", -1);
            any.due("onTheWay 0 " + place + " 1", -1);
            any.due("onTheWay 0 1 " + place, -1);
            any.due("onTheWay " + place + " " + place + " " + place, -1);
        }
        any.due("count 11", 20);
        new About(26, "-1 any.").due("onTheWay 0 0 0", -1);
    }

    private static void row() {
        About x = new About(27, "A number more of the ROW (0 .. 9): how many.");
        for (int n = 0; n <= 9; n++) {
            x.due("row " + n, n + 1);
        }
        x.due("count 7", 10);
        String refusals = "-4; -6 (9; 10, too).";
        About number = new About(27, refusals);
        number.due("row -1", -4);
        number.due("row " + LEAST, -4);
        number.due("row 10", -6);
        number.due("row " + GREATEST, -6);
        number.due("count 7", 0);
        number.due("row 9", 1);
        About full = new About(27, refusals, "pp50;e00710999;");
        full.rowOf(0, 9, 9, 9, 9, 9, 9, 9, 9, 9);
        full.due("row 0", -6);
        full.due("row 9", -6);
        full.due("row 10", -6);
        full.due("row -1", -4);
        full.due("count 7", 10);
        full.due("count 14", 1);
        full.due("count 16", 3);
        full.due("day 1", 1);
        full.due("clear", 10);
        full.due("row 0", 1);
    }

    private static void clear() {
        About x = new About(28, "The ROW has none then: how many it had.", "pp50;e00710999;");
        x.due("clear", 0);
        x.due("row 0", 1);
        x.due("day 1", 1);
        x.due("clear", 1);
        x.due("count 7", 0);
        x.due("day 1", 0);
        x.due("clear", 0);
        x.rowOf(0, 1, 2, 3, 4, 5, 6, 7, 8, 9);
        x.due("clear", 10);
        x.due("row 5", 1);
        x.due("day 1", 0);
    }

    private static void judge() {
        About x = new About(29, "JUDGED; -9 (the ROW stays).", "pp50;", "e00110999;".repeat(4));
        x.due("judge", -9);
        x.rowOf(3, 2, 1, 0);
        x.due("judge", -9);
        x.due("count 7", 4);
        x.due("row 4", 5);
        x.due("judge", 4);
        x.due("judge", 4);
        x.due("day 1", 15);
        x.due("clear", 5);
        // The last place of a full ROW can never be the first that would not be done: there are 5 ERRANDS at most.
        x.rowOf(9, 9, 9, 9, 9, 9, 9, 9, 9, 9);
        x.due("judge", 0);
        noPlaces(29, "-3.", "judge", -9);
    }

    private static void lots() {
        About x = new About(30, "LOTS.", "pp30;");
        // DRAWS from 7: 7 5 6 0 7 7 5 6 4 5 2 1 2 1 1 0 2 4 2 7; below 6: 14 of 20.
        x.due("lots 1 7", 0);
        x.due("lots 2 7", 1);
        x.due("lots 20 7", 14);
        x.due("lots 20 7", 14);
        String refusals = "-4; -6 20; -3.";
        About without = new About(30, refusals);
        About with = new About(30, refusals, SMALL);
        for (About object : new About[] {without, with}) {
            object.due("lots 0 0", -4);
            object.due("lots -1 0", -4);
            object.due("lots " + LEAST + " 0", -4);
            object.due("lots 21 0", -6);
            object.due("lots " + GREATEST + " 0", -6);
        }
        without.due("lots 1 0", -3);
        without.due("lots 20 -1", -3);
        with.due("slope 0 9", 3);
        with.due("lots 1 " + LEAST, 1);
        with.due("lots 20 " + GREATEST, 20);
    }

    private static void image() {
        String sentence = "THE IMAGE is taken: how many PLACES.";
        About x = new About(31, sentence);
        x.due("image", 0);
        x.due("on", 0);
        x.town("pp50;", 1);
        x.due("image", 1);
        x.town("pp50;".repeat(7), 7);
        x.due("on", 1);
        x.town("pp40;".repeat(7), 7);
        x.due("image", 8);
        x.due("slope 7 0", 4);
        x.due("on", 8);
        x.due("place 7 1", 4);
    }

    private static void on() {
        String sentence = "ON from it: how many PLACES.";
        About x = new About(32, sentence, SMALL);
        x.due("image", 2);
        x.due("on", 2);
        x.town("pp50;w02010;w12010;", 3);
        x.due("leg 0 1 0", 2);
        x.due("on", 2);
        x.due("leg 0 1 0", 5);
        x.due("leg 0 1 1", 3);
        x.due("on", 2);
        String refusal = "-3 there is none.";
        About none = new About(32, refusal);
        none.due("on", -3);
        none.due("count 13", 1);
        About town = new About(32, refusal, SMALL);
        town.due("on", -3);
        town.due("count 0", 2);
        town.due("image", 2);
        town.due("on", 2);
        town.due("count 13", 1);
    }

    private static void count() {
        String sentence = "0 PLACES, 1 WAYS, 2 ERRANDS, 3 FUEL, 4 RUN, 5 the DRIVER, 6 all WORTH, 7 in the ROW, 8 letters, "
            + "11 .. 16 REFUSALS -1 .. -6.";
        About full = new About(33, sentence, EIGHT,
            "w01010;w02010;w03010;w04010;w05010;w06010;w07010;w12010;w13010;w14010;w15010;w16010;w17010;",
            "w23010;e00199999;e00199999;e00199999;e00199999;e00199999;f960;d5;");
        full.rowOf(0, 1, 2, 3, 4, 5, 6, 7, 8, 9);
        full.spell("x".repeat(96));
        int[] counts = {8, 14, 5, 9, 60, 5, 495, 10, 96};
        for (int what = 0; what < counts.length; what++) {
            full.due("count " + what, counts[what]);
        }
        About refusals = new About(33, sentence);
        for (int i = 0; i < 6; i++) {
            refusals.ask("place 0 0");
        }
        for (int i = 0; i < 5; i++) {
            refusals.ask("likely 2");
        }
        for (int i = 0; i < 4; i++) {
            refusals.ask("worth 0");
        }
        for (int i = 0; i < 3; i++) {
            refusals.ask("row -1");
        }
        refusals.ask("row 10");
        int[] due = {6, 5, 4, 3, 0, 1};
        for (int i = 0; i < due.length; i++) {
            refusals.due("count " + (11 + i), due[i]);
        }
        About other = new About(33, "-9 for another what.");
        for (int what : new int[] {-1, 9, 10, 17, 18, LEAST, GREATEST}) {
            other.due("count " + what, -9);
        }
        for (int what = 11; what <= 16; what++) {
            other.due("count " + what, 0);
        }
    }
}
