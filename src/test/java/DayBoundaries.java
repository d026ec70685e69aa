import java.util.Arrays;

/** The edges of days, of what is asked about them, and of the IMAGE: the second half of "Terms". */
final class DayBoundaries {
    private static final String EIGHT = "pp50;".repeat(8);
    /** A PLACE letter and SLOPE for each number of STARTS, 0 to 10. */
    private static final String[] STARTS = {"pp0", "pb0", "pp1", "pb1", "pp2", "pb2", "pp3", "pb3", "pp4", "pb4", "pp5"};

    private DayBoundaries() {
    }

    static void lookAtAll() {
        turnsOff();
        runner();
        careful();
        pusher();
        sloper();
        safeOne();
        startAtHome();
        onceThere();
        leftOutOfTheDay();
        likely();
        homeAt();
        worthInTheMean();
        row();
        best();
        sure();
        bestDriver();
        leftOut();
        runOn();
        push();
        hill();
        mend();
        onFoot();
        onTheWay();
        judged();
        lots();
        draws();
        image();
    }

    private static About terms(String sentence, String... towns) {
        return new About(About.TERMS, sentence, towns);
    }

    private static void dueDay(About x, int homeAt, int done, int fuel) {
        x.due("day 0", homeAt);
        x.due("day 1", done);
        x.due("day 2", fuel);
    }

    private static void turnsOff() {
        String sentence = "DRIVERS, KINDS, at an ERRAND: 0 DRIVER: turns it off; it must START (by STARTS) to leave.";
        int[][] likely = {{0, 1}, {1, 10}, {1, 5}, {3, 10}, {2, 5}, {1, 2}, {3, 5}, {7, 10}, {4, 5}, {9, 10}, {1, 1}};
        for (int starts = 0; starts <= 10; starts++) {
            About x = terms(sentence, "pp50;" + STARTS[starts] + "3;w01010;e10110999;f060;");
            x.rowOf(0);
            x.due("place 1 3", starts);
            x.dueFraction("likely", likely[starts][0], likely[starts][1]);
            x.dueFraction("worth", 10, 1);
            x.due("day 2", 0);
        }
    }

    private static void runner() {
        String sentence = "1 RUNNER under DRIVER: keeps it running, if LASTS is no more than RUN "
            + "(FUEL for each of these MINUTES; it need not START); else as a DRIVER.";
        // STARTS 0 at the ERRAND, 60 MINUTES: RUN 60 is enough, 59 is not.
        About longest = terms(sentence, "pp50;pp00;w01010;e16099999;f960;d1;");
        longest.rowOf(0);
        dueDay(longest, 62, 1, 540);
        longest.dueFraction("likely", 1, 1);
        longest.dueFraction("worth", -441, 1);
        longest.due("set 1 59", 60);
        dueDay(longest, 62, 1, 0);
        longest.dueFraction("likely", 0, 1);
        longest.dueFraction("worth", 99, 1);
        // The shortest LASTS is 1: RUN 0 is never enough.
        About shortest = terms(sentence, "pp50;pp00;w01010;e10199999;f900;d1;");
        shortest.rowOf(0);
        dueDay(shortest, 3, 1, 0);
        shortest.dueFraction("likely", 0, 1);
        shortest.due("set 1 1", 0);
        dueDay(shortest, 3, 1, 9);
        shortest.dueFraction("likely", 1, 1);
        // It keeps it running where STARTS are 10, too; at HOME it must START as for a DRIVER.
        About steep = terms(sentence, "pp40;pp50;w01010;e10520999;d1;");
        steep.rowOf(0);
        dueDay(steep, 7, 1, 5);
        steep.dueFraction("likely", 4, 5);
        steep.dueFraction("worth", 12, 1);
    }

    private static void careful() {
        String sentence =
            "2 CAREFUL under RUNNER: as a RUNNER, but only where STARTS are below 10; else as a DRIVER.";
        // STARTS 9 at PLACE 1, 10 at PLACE 2; the last ERRAND lasts longer than RUN. PUSHED is 10 at both.
        About x = terms(sentence, "pp50;pb43;pb50;w01010;w02010;e10510999;e20510999;e11110999;d2;");
        x.rowOf(0);
        dueDay(x, 7, 1, 5);
        x.dueFraction("likely", 1, 1);
        x.dueFraction("worth", 5, 1);
        x.rowOf(1);
        dueDay(x, 7, 2, 0);
        x.dueFraction("likely", 1, 1);
        x.dueFraction("worth", 10, 1);
        x.rowOf(2);
        dueDay(x, 13, 4, 0);
        x.dueFraction("likely", 9, 10);
        x.due("set 1 11", 10);
        dueDay(x, 13, 4, 11);
        x.dueFraction("likely", 1, 1);
    }

    private static void pusher() {
        String sentence = "3 PUSHER under DRIVER: as a DRIVER, by PUSHED in place of STARTS.";
        // HOME: 2, pushed 6; PLACE 1: 6, pushed 8. RUN would be enough, but it is turned off.
        About x = terms(sentence, "pp12;pp31;w01010;e10110999;d3;");
        x.rowOf(0);
        dueDay(x, 3, 1, 0);
        x.dueFraction("likely", 12, 25);
        x.dueFraction("worth", 6, 1);
        x.due("set 2 0", 3);
        x.dueFraction("likely", 3, 25);
        x.dueFraction("worth", 2, 1);
        About least = terms(sentence, "pp50;pp00;w01010;e10110999;d3;");
        least.rowOf(0);
        least.dueFraction("likely", 0, 1);
        About most = terms(sentence, "pp50;pp23;w01010;e10110999;d3;");
        most.rowOf(0);
        most.dueFraction("likely", 1, 1);
    }

    private static void sloper() {
        String sentence =
            "4 SLOPER under DRIVER: as a DRIVER; leaves out an ERRAND whose PLACE has STARTS below 10.";
        // STARTS: HOME 9, PLACE 1 10, PLACE 2 9, PLACE 3 8 (PUSHED 10).
        About x = terms(sentence, "pb40;pb50;pb40;pp43;w01010;w02010;w03010;",
            "e10110999;e20110999;e30110999;e00110999;d4;");
        int[] done = {1, 0, 0, 0};
        for (int errand = 0; errand < 4; errand++) {
            x.rowOf(errand);
            dueDay(x, 3 * done[errand], done[errand], 0);
            x.dueFraction("likely", 9, 10);
            x.dueFraction("worth", 9 * done[errand], 1);
        }
        x.due("slope 2 5", 4);
        x.rowOf(1);
        dueDay(x, 3, 2, 0);
    }

    private static void safeOne() {
        String sentence = "5 SAFE ONE under SLOPER: as a SLOPER; takes SAFE in place of LEGS.";
        // Straight in 1 with LIGHTS 9, round by 2 in 40 with none, there and back.
        About x = terms(sentence, "pp50;pp50;pb40;w01019;w02200;w21200;e10110999;e20110999;d5;");
        x.rowOf(0);
        dueDay(x, 81, 1, 0);
        x.dueFraction("likely", 1, 1);
        x.dueFraction("worth", 10, 1);
        x.rowOf(1);
        dueDay(x, 0, 0, 0);
        x.due("slope 2 5", 4);
        dueDay(x, 41, 2, 0);
        x.due("set 2 4", 5);
        x.rowOf(0);
        dueDay(x, 3, 1, 0);
        x.dueFraction("likely", 1, 100);
        x.dueFraction("worth", 1, 1);
    }

    private static void startAtHome() {
        String sentence = "A DAY by an order of ERRANDS: at HOME it must START (by STARTS; by PUSHED for a PUSHER), "
            + "MINUTE 0;";
        About nothingToDo = terms(sentence, "pp32;");
        for (int driver = 0; driver <= 5; driver++) {
            nothingToDo.ask("set 2 " + driver);
            nothingToDo.dueFraction("likely", driver == 3 ? 1 : 3, driver == 3 ? 1 : 5);
            dueDay(nothingToDo, 0, 0, 0);
        }
        terms(sentence, "pp00;").dueFraction("likely", 0, 1);
        terms(sentence, "pp50;").dueFraction("likely", 1, 1);
        // An ERRAND at HOME is come to at MINUTE 0: its TILL may be 0.
        About till = terms(sentence, "pp50;e00710000;e00710000;");
        till.rowOf(0);
        dueDay(till, 7, 1, 0);
        till.rowOf(0, 1);
        dueDay(till, 7, 1, 0);
    }

    private static void onceThere() {
        String sentence = "then a LEG to each, (it stalls by STALLS tenths), LASTS MINUTES there (done, if it comes there "
            + "by TILL: WORTH; else LASTS does not go by, it goes on, running); from the last one a LEG HOME.";
        // It comes there at 5. STARTS are 0 there, so only one who is late leaves again.
        About till = terms(sentence, "pp50;pp00;w01050;e10710005;e10710004;e10710000;e10710006;");
        till.rowOf(0);
        dueDay(till, 17, 1, 0);
        till.dueFraction("worth", 10, 1);
        till.dueFraction("likely", 0, 1);
        for (int late = 1; late <= 2; late++) {
            till.rowOf(late);
            dueDay(till, 10, 0, 0);
            till.dueFraction("worth", 0, 1);
            till.dueFraction("likely", 1, 1);
        }
        // Late and running on costs no FUEL; the next one is still in time.
        till.due("set 2 1", 0);
        till.rowOf(1, 3);
        dueDay(till, 17, 8, 7);
        till.dueFraction("worth", 3, 1);
        // After 5 and 7 MINUTES the next one, at the same PLACE, is come to at 12.
        About second = terms(sentence, "pp50;pp50;w01050;e10710999;e10710012;e10710011;");
        second.rowOf(0, 1);
        dueDay(second, 24, 3, 0);
        second.rowOf(0, 2);
        dueDay(second, 17, 1, 0);
        // Round: 3 + 1, 4 + 1, HOME in 6.
        About round = terms(sentence, "pp50;pp50;pp50;w01031;w12042;w02063;e10110999;e20110999;");
        round.rowOf(0, 1);
        dueDay(round, 15, 3, 0);
        round.dueFraction("likely", 63, 125);
        round.dueFraction("worth", 81, 5);
        round.rowOf(1, 0);
        dueDay(round, 15, 3, 0);
        // 10 * 7 / 10, then 10 * 7 / 10 * 8 / 10.
        round.dueFraction("worth", 63, 5);
        // TILL 999: 399 + 60 at PLACE 7, 399 back, 60 + 60 + 21 at HOME, then the last one at 999; or one later.
        About last = terms(sentence, EIGHT, "w01600;w12600;w23600;w34600;w45600;w56600;w67390;",
            "e76010999;e06010999;e06010999;e02110999;e00110999;");
        last.rowOf(0, 1, 2, 3, 4);
        dueDay(last, 1000, 31, 0);
        About beyond = terms(sentence, EIGHT, "w01600;w12600;w23600;w34600;w45600;w56600;w67390;",
            "e76010999;e06010999;e06010999;e02210999;e00110999;");
        beyond.rowOf(0, 1, 2, 3, 4);
        dueDay(beyond, 1000, 15, 0);
    }

    private static void leftOutOfTheDay() {
        String sentence = "One that can not be come to is left out, like what the DRIVER leaves out.";
        About x = terms(sentence, "pp40;pp50;pp50;w01030;e10110999;e20120999;");
        for (int driver = 0; driver <= 5; driver++) {
            x.ask("set 2 " + driver);
            x.rowOf(1);
            dueDay(x, 0, 0, 0);
            x.dueFraction("likely", 4, 5);
            x.dueFraction("worth", 0, 1);
            x.rowOf(1, 0, 1);
            dueDay(x, 7, 1, driver == 1 ? 1 : 0);
        }
        // Left out in the midst of others: no way to it, no way from it.
        About midst = terms(sentence, "pp50;pp50;pp40;pp50;w01010;w12050;w23050;w13010;", "e10110999;e20110999;e30110999;d4;");
        midst.rowOf(0, 1, 2);
        dueDay(midst, 6, 5, 0);
        midst.due("set 2 0", 4);
        dueDay(midst, 16, 7, 0);
    }

    private static void likely() {
        String sentence = "LIKELY: how likely it is HOME in the end (each START and STALL by itself): a fraction.";
        // Twice at the same PLACE: 2 tenths twice.
        About twice = terms(sentence, "pp50;pp10;w01050;e10110999;e10110999;");
        twice.rowOf(0, 1);
        twice.dueFraction("likely", 1, 25);
        twice.dueFraction("worth", 12, 1);
        // The same way there and back: 5 tenths twice.
        About back = terms(sentence, "pp50;pp50;w01055;e10110999;");
        back.rowOf(0);
        back.dueFraction("likely", 1, 4);
        // The least that is more than nothing: twelve times one tenth.
        About least = terms(sentence, "pb00;pb00;pb00;w01019;w12019;w02019;",
            "e10101999;e20101999;e10101999;e20101999;e10101999;");
        least.rowOf(0, 1, 2, 3, 4);
        least.dueFraction("likely", 1, 1000000000000L);
        // The most that is less than certain at so many: nine tenths twelve times.
        About most = terms(sentence, "pb40;pb40;pb40;w01011;w12011;w02011;",
            "e10101999;e20101999;e10101999;e20101999;e10101999;");
        most.rowOf(0, 1, 2, 3, 4);
        most.dueFraction("likely", 282429536481L, 1000000000000L);
    }

    private static void homeAt() {
        String sentence = "HOME AT: MINUTES in all, if nothing fails.";
        About never = terms(sentence, "pp00;pp00;w01059;e10710999;");
        never.rowOf(0);
        dueDay(never, 17, 1, 0);
        never.dueFraction("likely", 0, 1);
        About none = terms(sentence, "pp00;");
        none.due("day 0", 0);
        // Five times 60 MINUTES there, six LEGS over seven ways of 60; TILL 999 is over after the second.
        About most = terms(sentence, EIGHT, "w01600;w12600;w23600;w34600;w45600;w56600;w67600;",
            "e76010999;e06010999;e76010999;e06010999;e76010999;");
        most.rowOf(0, 1, 2, 3, 4);
        most.due("day 0", 6 * 420 + 2 * 60);
    }

    private static void worthInTheMean() {
        String sentence = "WORTH in the mean: each done one's WORTH by how likely it came there, less all FUEL by how "
            + "likely it came there: a fraction.";
        // It comes there by 0.6 * 0.5; the way back counts no more.
        About fuel = terms(sentence, "pp30;pp50;w01055;e11020999;d1;");
        fuel.rowOf(0);
        fuel.dueFraction("worth", 3, 1);
        fuel.due("day 2", 10);
        fuel.due("set 0 9", 1);
        fuel.dueFraction("worth", -21, 1);
        fuel.due("set 0 2", 9);
        fuel.dueFraction("worth", 0, 1);
        // Late: no WORTH; none is WORTH 0.
        About late = terms(sentence, "pp50;pp50;w01010;e10199000;e10100999;");
        late.rowOf(0, 1);
        late.dueFraction("worth", 0, 1);
        About most = terms(sentence, "pp50;", "e00199999;".repeat(5));
        most.rowOf(0, 1, 2, 3, 4);
        most.dueFraction("worth", 495, 1);
        About least = terms(sentence, "pp50;", "e06000999;".repeat(5), "f960;d1;");
        least.rowOf(0, 1, 2, 3, 4);
        least.dueFraction("worth", -2700, 1);
        // The smallest part: 1 by what is left of 1 after eleven tenths.
        About part = terms(sentence, "pb00;pb00;pb00;w01019;w12019;w02019;",
            "e10100999;e20100999;e10100999;e20100999;e10101999;");
        part.rowOf(0, 1, 2, 3, 4);
        part.dueFraction("worth", 1, 10000000000L);
    }

    private static void row() {
        String sentence = "A ROW of ERRANDS (0 .. 9; 10 at most, numbers of none are left out, one twice counts once): "
            + "THE DAY of the ROW.";
        About tenth = terms(sentence, "pp50;e00710999;");
        tenth.rowOf(9, 9, 9, 9, 9, 9, 9, 9, 9, 0);
        tenth.due("count 7", 10);
        dueDay(tenth, 7, 1, 0);
        tenth.due("row 0", -6);
        dueDay(tenth, 7, 1, 0);
        About none = terms(sentence, "pp50;e00710999;");
        none.rowOf(1, 2, 3, 4, 5, 6, 7, 8, 9);
        none.due("count 7", 9);
        dueDay(none, 0, 0, 0);
        none.dueFraction("worth", 0, 1);
        none.dueFraction("likely", 1, 1);
        // What was a number of none is one's once there is an ERRAND more.
        none.town("e00310999;", 1);
        dueDay(none, 3, 2, 0);
        About twice = terms(sentence, "pp50;pp50;w01050;e10710999;e00110999;");
        twice.rowOf(0, 1, 0, 1, 0);
        dueDay(twice, 18, 3, 0);
        twice.dueFraction("worth", 20, 1);
        About empty = terms(sentence, "pp50;e00710999;");
        dueDay(empty, 0, 0, 0);
        About all = terms(sentence, "pp50;", "e00110999;".repeat(5));
        all.rowOf(4, 3, 2, 1, 0);
        dueDay(all, 5, 31, 0);
        // Numbers of none take no room from the five.
        all.rowOf(5, 6, 7, 8, 9, 0, 1, 2, 3, 4);
        dueDay(all, 5, 31, 0);
        all.rowOf(5, 0, 1, 2, 3, 4);
        dueDay(all, 5, 31, 0);
        all.rowOf(0, 0, 1, 1, 2, 2, 3, 3, 4, 4);
        dueDay(all, 5, 31, 0);
    }

    private static void best() {
        String sentence = "BEST: of all orders of all ERRANDS that with the least HOME AT (0), the most LIKELY (1), the "
            + "most WORTH in the mean (2), of several the first by numbers: its i-th; and its MINUTES, LIKELY, WORTH.";
        About alike = terms(sentence, "pp50;", "e00110999;".repeat(5));
        for (int by = 0; by <= 2; by++) {
            for (int i = 0; i < 5; i++) {
                alike.due("best " + by + " " + i, i);
            }
            alike.due("bestMinutes " + by, 5);
            alike.dueFraction("bestLikely " + by, 1, 1);
            alike.dueFraction("bestWorth " + by, 50, 1);
        }
        // All five in time only in the very last order; by least HOME AT two are late.
        About last = terms(sentence, "pp50;", "e01010040;e01010030;e01010020;e01010010;e01010000;");
        for (int i = 0; i < 5; i++) {
            last.due("best 2 " + i, 4 - i);
            last.due("best 0 " + i, i);
            last.due("best 1 " + i, i);
        }
        last.due("bestMinutes 2", 50);
        last.dueFraction("bestWorth 2", 50, 1);
        last.due("bestMinutes 0", 30);
        last.dueFraction("bestWorth 0", 30, 1);
        // The ROW does not matter.
        last.rowOf(0);
        last.due("bestMinutes 2", 50);
        everyOrderIsLookedAt(sentence);
        About none = terms(sentence, "pp30;");
        none.due("best 0 0", -1);
        for (int by = 0; by <= 2; by++) {
            none.due("bestMinutes " + by, 0);
            none.dueFraction("bestLikely " + by, 3, 5);
            none.dueFraction("bestWorth " + by, 0, 1);
        }
        About one = terms(sentence, "pp30;e00110999;");
        one.due("best 2 0", 0);
        one.due("best 2 1", -1);
        one.dueFraction("bestLikely 2", 9, 25);
        // By LIKELY alone the second order: late at the flat PLACE, where it then need not START.
        About likely = terms(sentence, "pp50;pp10;w01010;e10110001;e00510999;");
        likely.due("best 1 0", 1);
        likely.dueFraction("bestLikely 1", 1, 1);
        likely.dueFraction("bestWorth 1", 10, 1);
        likely.due("bestMinutes 1", 7);
        likely.due("best 0 0", 1);
        likely.due("best 2 0", 0);
        likely.dueFraction("bestWorth 2", 12, 1);
        likely.due("bestMinutes 2", 8);
    }

    /** Each of the 120 orders is once the only one in which all are in time. */
    private static void everyOrderIsLookedAt(String sentence) {
        for (int code = 0; code < 3125; code++) {
            int[] order = {code / 625, code / 125 % 5, code / 25 % 5, code / 5 % 5, code % 5};
            String[] errands = new String[5];
            for (int i = 0; i < 5; i++) {
                errands[order[i]] = "e010100" + i + "0;";
            }
            if (!Arrays.asList(errands).contains(null)) {
                About x = terms(sentence, "pp50;", String.join("", errands));
                for (int i = 0; i < 5; i++) {
                    x.due("best 2 " + i, order[i]);
                }
                x.dueFraction("bestWorth 2", 50, 1);
            }
        }
    }

    private static void sure() {
        String sentence = "SURE: ERRANDS (bits) each of which, alone, is done with LIKELY 1.";
        // In time at 5, late by one, STARTS 9, at HOME at MINUTE 0, behind LIGHTS 1.
        About x = terms(sentence, "pp50;pb50;pb40;pp50;w01050;w02050;w03011;",
            "e10110005;e10110004;e20110999;e00110000;e30110999;");
        x.due("sure", 9);
        x.due("set 2 1", 0);
        x.due("sure", 13);
        x.due("slope 0 4", 5);
        x.due("sure", 0);
        About all = terms(sentence, "pp50;", "e00100000;".repeat(5));
        all.due("sure", 31);
        all.rowOf(0, 1);
        all.due("sure", 31);
        terms(sentence, "pp50;").due("sure", 0);
        // Alone, whatever was asked before: after the flat one of the ROW none would be sure.
        x.due("slope 0 5", 4);
        x.due("set 2 0", 1);
        x.rowOf(0, 2);
        x.dueFraction("likely", 9, 10);
        x.due("sure", 9);
        x.rowOf(2, 0);
        x.dueFraction("likely", 9, 10);
        x.due("sure", 9);
        // Left out is not done, though it is HOME for certain.
        About flat = terms(sentence, "pp50;pp40;w01010;e10110999;d4;");
        flat.due("sure", 0);
        // By PUSHED, for a PUSHER: HOME 8 and one who pushes, PLACE 1 4 and three.
        About pushed = terms(sentence, "pp41;pp23;w01010;e10110999;d3;");
        pushed.due("sure", 1);
    }

    private static void bestDriver() {
        String sentence =
            "BEST DRIVER: the KIND with the most WORTH in the mean by the ROW, of several the first.";
        About alike = terms(sentence, "pp50;e00110999;f000;");
        alike.due("bestDriver", 0);
        alike.rowOf(0);
        alike.due("bestDriver", 0);
        alike.due("set 2 5", 0);
        alike.due("bestDriver", 0);
        alike.due("count 5", 5);
        // STARTS 0 at PLACE 1, FUEL 0: a RUNNER and a CAREFUL one come on alike.
        About runs = terms(sentence, "pp50;pp00;w01010;e10110999;e00110999;f010;");
        runs.rowOf(0, 1);
        runs.due("bestDriver", 1);
        // FUEL at the steep one: a CAREFUL one saves it.
        About careful = terms(sentence, "pp50;pp00;pp50;w01010;w02010;e20110999;e10110999;e00150999;");
        careful.rowOf(0, 1, 2);
        careful.due("bestDriver", 2);
        About pushed = terms(sentence, "pp12;e00110999;");
        pushed.rowOf(0);
        pushed.due("bestDriver", 3);
        // What is flat is worth nothing and holds it up: a SLOPER, and as good a SAFE ONE.
        About slopes = terms(sentence, "pp50;pp10;w01010;e10100999;e00110999;");
        slopes.rowOf(0, 1);
        slopes.due("bestDriver", 4);
        About safe = terms(sentence, "pp50;pp50;pp50;w01019;w02010;w21010;e10110999;");
        safe.rowOf(0);
        safe.due("bestDriver", 5);
    }

    private static void leftOut() {
        String sentence = "LEFT OUT: the ERRAND of the ROW without which WORTH in the mean is most, more than with all, "
            + "of several the first in the ROW; -9.";
        About none = terms(sentence, "pp50;e00110999;");
        none.due("leftOut", -9);
        none.rowOf(7);
        none.due("leftOut", -9);
        none.rowOf(0);
        none.due("leftOut", -9);
        // As much without it is not more.
        About asMuch = terms(sentence, "pp50;e00100999;e00110999;");
        asMuch.rowOf(0, 1);
        asMuch.due("leftOut", -9);
        // Either of two alike is in the way of the third: the first in the ROW, not by number.
        About alike = terms(sentence, "pp50;pp10;w01010;e10100999;e10100999;e00199999;");
        alike.rowOf(1, 0, 2);
        alike.due("leftOut", 1);
        alike.rowOf(0, 1, 2);
        alike.due("leftOut", 0);
        // In the ROW twice, it is left out twice; numbers of none do not count.
        alike.rowOf(9, 1, 1, 2);
        alike.due("leftOut", 1);
        // 0.9 * 0.1 * 10 with all; without 0 it is 1, without 1 it is 9.
        About most = terms(sentence, "pp50;pb40;pb00;w01010;w02010;e10100999;e20100999;e00110999;");
        most.rowOf(0, 1, 2);
        most.due("leftOut", 1);
        // By one tenth more: 1 for 0.9.
        About little = terms(sentence, "pp50;pb40;w01010;e10100999;e00101999;");
        little.rowOf(0, 1);
        little.due("leftOut", 0);
        // A ROW that is full.
        little.rowOf(0, 1, 9, 9, 9, 9, 9, 9, 9, 9);
        little.due("leftOut", 0);
        little.rowOf(9, 9, 9, 9, 9, 9, 9, 9, 0, 1);
        little.due("leftOut", 0);
        // FUEL alone makes it less worth to go.
        About fuel = terms(sentence, "pp50;e00204999;e00205999;f310;d1;");
        fuel.rowOf(1, 0);
        fuel.due("leftOut", 0);
    }

    private static void runOn() {
        String sentence =
            "RUN ON: the RUN (0 .. 60) by which a RUNNER has most WORTH by the ROW, of several the least.";
        terms(sentence, "pp50;").due("runOn", 0);
        // For nothing it may run on at every one: from 5 on it is as good.
        About least = terms(sentence, "pp50;pp00;w01010;e10510999;e10199999;f000;");
        least.rowOf(0, 1);
        least.due("runOn", 5);
        About most = terms(sentence, "pp50;pp00;w01010;e16010999;e10199999;f000;");
        most.rowOf(0, 1);
        most.due("runOn", 60);
        About shortest = terms(sentence, "pp50;pp00;w01010;e10110999;e10199999;f000;");
        shortest.rowOf(0, 1);
        shortest.due("runOn", 1);
        // 10 with RUN 0; from 59 on 10 - 59 + 60 - 1, which is as good, or with 61 for 60 more by one.
        About even = terms(sentence, "pp50;pp00;w01010;e15910999;e00160999;");
        even.rowOf(0, 1);
        even.due("runOn", 0);
        About gain = terms(sentence, "pp50;pp00;w01010;e15910999;e00161999;f160;d3;");
        gain.rowOf(0, 1);
        gain.due("runOn", 59);
        gain.due("count 4", 60);
        gain.due("count 5", 3);
    }

    private static void push() {
        String sentence = "PUSH: the PLACE at which one of PUSHERS more (3 at most) makes a PUSHER's WORTH by the ROW "
            + "most, more than now, of several the first; -9.";
        terms(sentence, "pp00;").due("push", -9);
        About third = terms(sentence, "pp02;e00110999;");
        third.rowOf(0);
        third.due("push", 0);
        third.due("place 0 2", 2);
        About fourth = terms(sentence, "pp03;e00110999;");
        fourth.rowOf(0);
        fourth.due("push", -9);
        // PUSHED 10 already: no more than now.
        About enough = terms(sentence, "pp41;e00110999;");
        enough.rowOf(0);
        enough.due("push", -9);
        About last = terms(sentence, "pp50;".repeat(7) + "pp00;w07010;e70101999;e00110999;");
        last.rowOf(0, 1);
        last.due("push", 7);
        // 4 tenths at HOME, 4 at PLACE 1, then 10: one more makes it 6 by 4 either way.
        About alike = terms(sentence, "pp20;pp20;w01010;e10100999;e00110999;");
        alike.rowOf(0, 1);
        alike.due("push", 0);
        // NARROW with none: one more makes 3 for STARTS and 2 for PUSHED, HOME only 2.
        About narrow = terms(sentence, "pp20;pn40;w01010;e10100999;e00110999;");
        narrow.rowOf(0, 1);
        narrow.due("push", 1);
        // One, not two: 4 for 2 at HOME, 9 for 4 at PLACE 1 (two would make 6 and 10).
        About one = terms(sentence, "pp10;pn50;w01010;e10100999;e00110999;");
        one.rowOf(0, 1);
        one.due("push", 1);
        // A PUSHER's WORTH, whoever drives.
        narrow.due("set 2 1", 0);
        narrow.due("push", 1);
        narrow.due("count 5", 1);
    }

    private static void hill() {
        String sentence = "HILL: by how much WORTH by the ROW is more, were STARTS at HOME 10: a fraction.";
        About none = terms(sentence, "pp50;e00110999;");
        none.dueFraction("hill", 0, 1);
        none.rowOf(0);
        none.dueFraction("hill", 0, 1);
        About all = terms(sentence, "pp00;e00199999;");
        all.rowOf(0);
        all.dueFraction("hill", 99, 1);
        all.due("place 0 3", 0);
        About tenth = terms(sentence, "pb40;e00101999;");
        tenth.rowOf(0);
        tenth.dueFraction("hill", 1, 10);
        // Only HOME: PLACE 1 stays as it is, 10 + 0.2 * 10 for 0.6 times that.
        About only = terms(sentence, "pp30;pp10;w01010;e10110999;e10110999;");
        only.rowOf(0, 1);
        only.dueFraction("hill", 24, 5);
        // For a PUSHER with none who push as well; with three, PUSHED 6 becomes 10, not 16.
        About pushed = terms(sentence, "pp00;e00110999;d3;");
        pushed.rowOf(0);
        pushed.dueFraction("hill", 10, 1);
        About three = terms(sentence, "pp03;e00110999;d3;");
        three.rowOf(0);
        three.dueFraction("hill", 4, 1);
        // An ERRAND at HOME, too: 10 + 10 for 6 + 3.6; a SLOPER does not leave it out; a CAREFUL one turns it off.
        About there = terms(sentence, "pp30;pp50;w01010;e00110999;e10110999;");
        there.rowOf(0, 1);
        there.dueFraction("hill", 52, 5);
        there.due("set 2 4", 0);
        there.dueFraction("worth", 6, 1);
        there.dueFraction("hill", 14, 1);
        there.due("set 2 2", 4);
        there.dueFraction("worth", 57, 5);
        there.dueFraction("hill", 43, 5);
        // At a loss: the likelier, the dearer. 0.4 * (1 - 9).
        About loss = terms(sentence, "pp30;pp50;w01010;e10101999;f960;d1;");
        loss.rowOf(0);
        loss.dueFraction("hill", -16, 5);
    }

    private static void mend() {
        String sentence = "MEND for a price m (0 .. 999), with every STARTS 10: whether WORTH by the ROW is then, n times "
            + "(1 .. 99), more by m at least: 1, 0; the fewest days (1 .. 99) by which it is; -9.";
        // 99 for 0 a day.
        About much = terms(sentence, "pp00;e00199999;");
        much.rowOf(0);
        int[][] prices = {{0, 1, 1}, {99, 1, 1}, {100, 1, 0}, {198, 2, 1}, {199, 2, 0}, {990, 10, 1}, {991, 10, 0},
            {999, 10, 0}, {999, 11, 1}, {999, 99, 1}};
        for (int[] price : prices) {
            much.due("mend " + price[0] + " " + price[1], price[2]);
        }
        int[][] days = {{0, 1}, {1, 1}, {99, 1}, {100, 2}, {198, 2}, {199, 3}, {999, 11}};
        for (int[] day : days) {
            much.due("mendFrom " + day[0], day[1]);
        }
        // 1 for 0 a day.
        About little = terms(sentence, "pp00;e00101999;");
        little.rowOf(0);
        little.due("mend 99 99", 1);
        little.due("mend 99 98", 0);
        little.due("mend 100 99", 0);
        little.due("mendFrom 98", 98);
        little.due("mendFrom 99", 99);
        little.due("mendFrom 100", -9);
        little.due("mendFrom 999", -9);
        // 1 for 0.9 a day: ten days for 1.
        About tenth = terms(sentence, "pb40;e00101999;");
        tenth.rowOf(0);
        tenth.due("mend 1 9", 0);
        tenth.due("mend 1 10", 1);
        tenth.due("mendFrom 1", 10);
        tenth.due("mendFrom 9", 90);
        tenth.due("mendFrom 10", -9);
        // No more than now.
        About none = terms(sentence, "pp50;e00199999;");
        none.rowOf(0);
        none.due("mend 0 1", 1);
        none.due("mend 1 99", 0);
        none.due("mendFrom 0", 1);
        none.due("mendFrom 1", -9);
        // Less than now: not even for nothing.
        About loss = terms(sentence, "pb40;e00101999;f960;d1;");
        loss.rowOf(0);
        loss.due("mend 0 1", 0);
        loss.due("mend 0 99", 0);
        loss.due("mendFrom 0", -9);
        // Every one: 2 at HOME, 2 at PLACE 1: 0.2 * 10 + 0.04 * 10 now, 20 then.
        About every = terms(sentence, "pp10;pp10;w01010;e10110999;e00110999;");
        every.rowOf(0, 1);
        every.dueFraction("worth", 12, 5);
        every.due("mend 17 1", 1);
        every.due("mend 18 1", 0);
        every.due("mend 88 5", 1);
        every.due("mend 89 5", 0);
        every.due("place 1 3", 2);
        // For a PUSHER with none who push it is the same.
        every.due("set 2 3", 0);
        every.due("mend 88 5", 1);
        every.due("mend 89 5", 0);
        every.due("mendFrom 89", 6);
        // Eight PLACES, an ERRAND at the last of them: 0.2 * 10 for the one behind it now.
        About eight = terms(sentence, "pp50;".repeat(7) + "pp10;w07010;e70100999;e00110999;");
        eight.rowOf(0, 1);
        eight.due("mend 8 1", 1);
        eight.due("mend 9 1", 0);
    }

    private static void onFoot() {
        String sentence = "ON FOOT: one stands at a PLACE and walks to two told ones and back (5 times the MINUTES of LEGS "
            + "there and back to each): the PLACE with STARTS 10 with the least MINUTES, of several the first; -9; these.";
        // On a line; STARTS 10, 9, 10.
        About line = terms(sentence, "pb50;pb40;pb50;w01010;w12010;");
        line.due("onFoot 1 1 0", 0);
        line.due("onFoot 1 1 1", 20);
        line.due("onFoot 0 2 0", 0);
        line.due("onFoot 0 2 1", 20);
        line.due("onFoot 1 2 0", 2);
        line.due("onFoot 2 1 1", 10);
        line.due("onFoot 2 2 1", 0);
        line.due("slope 1 5", 4);
        line.due("onFoot 1 1 0", 1);
        line.due("onFoot 1 1 1", 0);
        line.due("onFoot 0 2 0", 0);
        // By STARTS, not by PUSHED.
        About none = terms(sentence, "pp43;pb43;w01010;");
        none.due("place 0 4", 10);
        none.due("onFoot 0 1 0", -9);
        none.due("onFoot 0 1 1", -9);
        none.due("onFoot 0 0 1", -9);
        // Both must be come to.
        About apart = terms(sentence, "pp50;pp50;pp50;w01010;");
        apart.due("onFoot 0 2 0", -9);
        apart.due("onFoot 2 1 1", -9);
        apart.due("onFoot 2 2 0", 2);
        apart.due("onFoot 2 2 1", 0);
        // The MINUTES of LEGS, not of SAFE: 1 with LIGHTS 9, for 2 with none.
        About lights = terms(sentence, "pp50;pp40;pp40;w01019;w02010;w21010;");
        lights.due("onFoot 1 0 1", 10);
        lights.due("onFoot 0 1 1", 10);
        lights.due("onFoot 1 1 1", 20);
        // The farthest: twice 420 there and back to each.
        About far = terms(sentence, "pp50;" + "pp40;".repeat(7), "w01600;w12600;w23600;w34600;w45600;w56600;w67600;");
        far.due("onFoot 7 7 0", 0);
        far.due("onFoot 7 7 1", 8400);
    }

    private static void onTheWay() {
        String sentence =
            "ON THE WAY: whether a PLACE lies on some LEG with the least MINUTES between two others: 1, 0.";
        // From 0 to 1 straight in 10, over 2 in 10, over 3 in 11.
        About x = terms(sentence, "pp50;pp50;pp50;pp50;pp50;w01100;w02059;w21059;w03050;w31060;");
        int[] lies = {1, 1, 1, 0, 0};
        for (int place = 0; place < 5; place++) {
            x.due("onTheWay " + place + " 0 1", lies[place]);
            x.due("onTheWay " + place + " 1 0", lies[place]);
        }
        x.due("onTheWay 0 0 0", 1);
        x.due("onTheWay 1 0 0", 0);
        x.due("onTheWay 4 4 4", 1);
        x.due("onTheWay 0 0 4", 0);
        x.due("onTheWay 4 0 4", 0);
        x.due("onTheWay 0 4 4", 0);
        // LEGS, not SAFE: 1 with LIGHTS 9, for 2 with none.
        About lights = terms(sentence, "pp50;pp50;pp50;w01019;w02010;w21010;");
        lights.due("onTheWay 0 0 1", 1);
        lights.due("onTheWay 1 0 1", 1);
        lights.due("onTheWay 2 0 1", 0);
        About line = terms(sentence, EIGHT, "w01600;w12600;w23600;w34600;w45600;w56600;w67600;");
        for (int place = 0; place < 8; place++) {
            line.due("onTheWay " + place + " 0 7", 1);
            line.due("onTheWay " + place + " 7 1", place == 0 ? 0 : 1);
        }
    }

    private static void judged() {
        String sentence = "JUDGED: the ROW as an order: the place of the first number in it that would not be done in THE "
            + "DAY (late, left out, none, twice); -9.";
        About x = terms(sentence, "pp50;pp40;pp50;w01050;e00110999;e10110005;e00110999;e10110999;e20110999;");
        x.due("judge", -9);
        x.rowOf(0, 2);
        x.due("judge", -9);
        // Late: 1 + 5 is behind 5.
        x.rowOf(0, 1, 2);
        x.due("judge", 1);
        x.rowOf(1, 0, 2);
        x.due("judge", -9);
        // Not to be come to.
        x.rowOf(2, 0, 3, 4);
        x.due("judge", 3);
        // None.
        x.rowOf(5);
        x.due("judge", 0);
        x.rowOf(0, 2, 9);
        x.due("judge", 2);
        // Twice: the second one; but the first, if that is not done anyway.
        x.rowOf(0, 2, 0);
        x.due("judge", 2);
        x.rowOf(4, 4);
        x.due("judge", 0);
        // The last place of a full ROW can only be one twice, or none.
        x.rowOf(1, 0, 2, 3, 3, 9, 9, 9, 9, 9);
        x.due("judge", 4);
        // What the DRIVER leaves out.
        x.due("set 2 4", 0);
        x.rowOf(0, 3);
        x.due("judge", 1);
        About five = terms(sentence, "pp50;", "e00110999;".repeat(5));
        five.rowOf(4, 3, 2, 1, 0);
        five.due("judge", -9);
        five.due("row 4", 6);
        five.due("judge", 5);
    }

    private static void lots() {
        String sentence = "LOTS with a seed z: n days (1 .. 20) of the ROW by DRAWS below 10 (START: it starts if less "
            + "than STARTS; then a STALL: it stalls if less than STALLS; no DRAW where these are 0 or 10; nothing behind "
            + "what fails): how often it is HOME.";
        About always = terms(sentence, "pp50;");
        always.due("lots 1 0", 1);
        always.due("lots 20 0", 20);
        always.due("lots 20 -2147483648", 20);
        always.due("lots 20 2147483647", 20);
        About never = terms(sentence, "pp00;");
        never.due("lots 1 0", 0);
        never.due("lots 20 0", 0);
        // A START each day, DRAWS from 0: 3 7 6 9 9 0 4 7 4 5 7 9 3 4 3 6 9 2 1 0; below STARTS 4: 3 0 3 3 2 1 0.
        About starts = terms(sentence, "pp20;");
        starts.due("lots 1 0", 1);
        starts.due("lots 5 0", 1);
        starts.due("lots 6 0", 2);
        starts.due("lots 19 0", 6);
        starts.due("lots 20 0", 7);
        // Not less than STARTS 3 is the first 3.
        About less = terms(sentence, "pb10;");
        less.due("lots 1 0", 0);
        less.due("lots 6 0", 1);
        // STALLS 3 there and back, STARTS 10: the DRAWS are the STALLS' alone. From 0: 3 7, HOME; 6 9, HOME; 9 0.
        About stalls = terms(sentence, "pp50;pp50;w01013;e10110999;");
        stalls.rowOf(0);
        stalls.due("lots 1 0", 1);
        stalls.due("lots 2 0", 2);
        stalls.due("lots 3 0", 2);
        // 4 7, HOME; 4 5, HOME; 7 9, HOME; 3 4, HOME; 3 6, HOME; 9 2; 1.
        stalls.due("lots 8 0", 7);
        stalls.due("lots 10 0", 7);
        // STALLS 4: the first 3 stalls, nothing comes behind it: 3; 7 6, HOME; 9 9, HOME; 0; 4 7, HOME.
        About more = terms(sentence, "pp50;pp50;w01014;e10110999;");
        more.rowOf(0);
        more.due("lots 1 0", 0);
        more.due("lots 2 0", 1);
        more.due("lots 5 0", 3);
        // STARTS 0 at the ERRAND: the STALL ahead of it draws, then nothing.
        About nowhere = terms(sentence, "pp50;pp00;w01014;e10110999;");
        nowhere.rowOf(0);
        nowhere.due("lots 20 0", 0);
        // A RUNNER need not START there; a PUSHER starts by PUSHED, 10.
        nowhere.due("set 2 1", 0);
        nowhere.due("lots 2 0", 1);
        About pushed = terms(sentence, "pp23;d3;");
        pushed.due("lots 20 0", 20);
        // Late: no START. LIGHTS 0: no DRAW at all.
        About late = terms(sentence, "pp50;pp00;w01010;e10110000;");
        late.rowOf(0);
        late.due("lots 20 0", 20);
    }

    private static void draws() {
        String sentence = "A DRAW below m: z becomes z times 1664525 and 1013904223 (an int); (z without its sign's bit by "
            + "256, cut) modulo m.";
        // The first DRAW of a seed. Of the last two z becomes -1133579425 and -1135243950, beyond the greatest int.
        int[][] seeds = {{12345, 0}, {-1, 1}, {0, 3}, {-5, 3}, {1, 5}, {7, 7}, {3, 9}, {-2147483648, 3}, {2147483647, 1}};
        for (int[] seed : seeds) {
            for (int starts = 1; starts <= 9; starts++) {
                terms(sentence, STARTS[starts] + "0;").due("lots 1 " + seed[0], seed[1] < starts ? 1 : 0);
            }
        }
    }

    private static void image() {
        String sentence = "THE IMAGE: all that there is, but it, the ROW, letters, REFUSALS; ON from it all is as then.";
        About x = terms(sentence, "pp32;pw41;w01053;e10720300;f307;d4;");
        x.due("row 0", 1);
        x.due("letter 100", 1);
        x.due("image", 2);
        x.spell("0;");
        x.due("town", 1);
        x.town("pp50;w02010;e20199999;f960;d5;", 5);
        x.due("slope 0 9", 3);
        x.due("row 1", 2);
        x.due("letter 100", 1);
        x.due("place 9 9", -1);
        x.due("on", 2);
        int[] counts = {2, 1, 1, 3, 7, 4, 20, 2, 1};
        for (int what = 0; what < counts.length; what++) {
            x.due("count " + what, counts[what]);
        }
        x.due("count 11", 1);
        x.due("place 0 1", 3);
        x.due("leg 0 2 0", -1);
        x.due("errand 1 0", -1);
        // What comes then does not come to the IMAGE: it may be gone on from again.
        x.due("slope 0 1", 3);
        x.due("set 0 0", 3);
        x.due("on", 2);
        x.due("place 0 1", 3);
        x.due("count 3", 3);
        // A later one takes the place of the first.
        x.due("slope 0 7", 3);
        x.due("image", 2);
        x.due("slope 0 8", 7);
        x.due("on", 2);
        x.due("place 0 1", 7);
        // Of nothing at all.
        About nothing = terms(sentence);
        nothing.due("image", 0);
        nothing.town("pp50;pp50;w01010;e10110999;f960;d5;", 6);
        nothing.due("on", 0);
        int[] none = {0, 0, 0, 1, 10, 0, 0};
        for (int what = 0; what < none.length; what++) {
            nothing.due("count " + what, none[what]);
        }
        nothing.due("day 0", -3);
    }
}
