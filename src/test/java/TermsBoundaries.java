/** The edges of the town itself: what is told of it in letters, its KINDS, its ways. */
final class TermsBoundaries {
    private static final String PLACES =
        "PLACES 0 .. as they come (8 at most): KIND, SLOPE (0 .. 9), PUSHERS (0 .. 3).";
    private static final String WAYS = "WAYS (14 at most, one between two PLACES, either way): MINUTES (1 .. 60), "
        + "LIGHTS (0 .. 9 tenths it stalls).";
    private static final String ERRANDS = "ERRANDS 0 .. as they come (5 at most): a PLACE, LASTS (1 .. 60 MINUTES), "
        + "WORTH (0 .. 99), TILL (0 .. 999).";
    private static final String FUEL =
        "FUEL (0 .. 9 a MINUTE of running on: 1 at first), RUN (0 .. 60 MINUTES it may run on: 10 at first).";
    private static final String DRIVER = "A DRIVER of a KIND (0 at first).";
    private static final String LETTERS =
        "A TOWN is told in letters, one by one (96 at most): STATEMENTS, each with \";\" behind:";
    private static final String FIRST_KIND = "FAULT: kind 1 the place of the first letter with which no TOWN can go on "
        + "(the end, if something lacks): -1000 less the place;";
    private static final String SECOND_KIND = "else kind 2 the place of the first letter of the first STATEMENT that is "
        + "not as it must be (a number out of range, no such PLACE ahead of it, one twice, a WAY that is there already, "
        + "no room for more): -2000 less the place.";
    private static final String EIGHT = "pp50;".repeat(8);
    private static final String DIGITS = "0123456789";

    private TermsBoundaries() {
    }

    static void lookAtAll() {
        callsOfOneObject();
        places();
        home();
        ways();
        errands();
        fuelAndRun();
        driver();
        letters();
        shapes();
        firstKindOfFault();
        secondKindOfFault();
        allOrNothing();
        kinds();
        pushed();
        legs();
        safeWays();
        noWay();
    }

    private static About terms(String sentence, String... towns) {
        return new About(About.TERMS, sentence, towns);
    }

    private static void callsOfOneObject() {
        String sentence = "An object is used for at most 512 calls after it has been made; what later calls answer is free.";
        About last = terms(sentence);
        for (int i = 1; i <= 511; i++) {
            last.due("place 0 0", -1);
        }
        last.due("count 11", 511);
        About dear = terms(sentence, EIGHT, "w07600;e70199999;e70199999;e70199999;e70199999;e70199999;");
        for (int i = 41 + 58; i < 512; i++) {
            dear.due("bestWorth 2 0", 495);
        }
    }

    private static void places() {
        About order = terms(PLACES, "pp10;pw21;", "pb32;");
        for (int place = 0; place < 3; place++) {
            order.due("place " + place + " 0", place);
            order.due("place " + place + " 1", place + 1);
            order.due("place " + place + " 2", place);
        }
        order.due("count 0", 3);
        order.due("place 3 0", -1);

        About full = terms(PLACES, EIGHT);
        full.due("count 0", 8);
        full.due("place 7 1", 5);
        full.due("place 8 1", -1);
        full.town("pp50;", -2000);
        full.due("count 0", 8);
        About nineAtOnce = terms(PLACES);
        nineAtOnce.town(EIGHT + "pp50;", -2040);
        nineAtOnce.due("count 0", 0);
        About seven = terms(PLACES, "pp50;".repeat(7));
        seven.town("pp50;pp50;", -2005);
        seven.due("count 0", 7);
        seven.town("pp50;", 1);
        seven.due("count 0", 8);

        About slopes = terms(PLACES, "pp00;pp90;");
        slopes.due("place 0 1", 0);
        slopes.due("place 1 1", 9);
        About pushers = terms(PLACES, "pp00;pp03;");
        pushers.due("place 0 2", 0);
        pushers.due("place 1 2", 3);
        pushers.town("pp04;", -2000);
        pushers.town("pp09;", -2000);
        pushers.due("count 0", 2);
    }

    private static void home() {
        // From PLACE 0, whose STARTS are 6, to 1 and back: 5 + 7 + 5.
        About x = terms("HOME is PLACE 0.", "pp30;pp50;pp00;w01050;w12010;e10710999;");
        x.rowOf(0);
        x.due("day 0", 17);
        x.dueFraction("likely", 3, 5);
        // At HOME itself: no way, no minute but LASTS.
        About at = terms("HOME is PLACE 0.", "pp50;pp00;w01050;e00710000;");
        at.rowOf(0);
        at.due("day 0", 7);
        at.due("day 1", 1);
    }

    private static void ways() {
        About full = terms(WAYS, EIGHT,
            "w01010;w02010;w03010;w04010;w05010;w06010;w07010;w12010;w13010;w14010;w15010;w16010;w17010;");
        full.town("w23010;w24010;", -2007);
        full.due("count 1", 13);
        full.due("leg 2 3 0", 2);
        full.town("w67019;", 1);
        full.due("count 1", 14);
        full.due("leg 6 7 0", 1);
        full.due("leg 7 6 1", 9);
        full.town("w23010;", -2000);
        full.due("count 1", 14);

        About one = terms(WAYS, "pp50;pp50;pp50;w01053;");
        one.town("w01060;", -2000);
        one.town("w10060;", -2000);
        one.due("count 1", 1);
        for (String way : new String[] {"0 1", "1 0"}) {
            one.due("leg " + way + " 0", 5);
            one.due("leg " + way + " 1", 3);
        }
        one.town("w21010;", 1);
        one.town("w12010;", -2000);

        About minutes = terms(WAYS, "pp50;pp50;pp50;");
        minutes.town("w01000;", -2000);
        minutes.town("w01610;", -2000);
        minutes.town("w01990;", -2000);
        minutes.due("count 1", 0);
        minutes.town("w01010;w02600;", 2);
        minutes.due("leg 0 1 0", 1);
        minutes.due("leg 0 2 0", 60);

        About lights = terms(WAYS, "pp50;pp50;pp50;w01010;w02019;e10110999;e20110999;");
        lights.due("leg 0 1 1", 0);
        lights.due("leg 0 2 1", 9);
        lights.rowOf(0);
        lights.dueFraction("likely", 1, 1);
        lights.rowOf(1);
        lights.dueFraction("likely", 1, 100);
        lights.dueFraction("worth", 1, 1);
    }

    private static void errands() {
        About order = terms(ERRANDS, "pp50;pp50;e00110100;e10220200;", "e00330300;");
        for (int errand = 0; errand < 3; errand++) {
            order.due("errand " + errand + " 0", errand % 2);
            order.due("errand " + errand + " 1", errand + 1);
            order.due("errand " + errand + " 2", 10 * (errand + 1));
            order.due("errand " + errand + " 3", 100 * (errand + 1));
        }
        order.due("count 2", 3);
        order.due("errand 3 0", -1);

        About full = terms(ERRANDS, "pp50;", "e00110999;".repeat(5));
        full.due("count 2", 5);
        full.due("errand 4 1", 1);
        full.due("errand 5 1", -1);
        full.town("e00110999;", -2000);
        full.due("count 2", 5);
        About sixAtOnce = terms(ERRANDS, "pp50;");
        sixAtOnce.town("e00110999;".repeat(6), -2050);
        sixAtOnce.due("count 2", 0);
        About four = terms(ERRANDS, "pp50;", "e00110999;".repeat(4));
        four.town("e00110999;e00110999;", -2010);
        four.due("count 2", 4);

        About numbers = terms(ERRANDS, "pp50;");
        for (String wrong : new String[] {"e10110999;", "e90110999;", "e00010999;", "e06110999;", "e09910999;"}) {
            numbers.town(wrong, -2000);
        }
        numbers.due("count 2", 0);
        numbers.town("e00100000;e06099999;", 2);
        int[][] due = {{0, 1, 0, 0}, {0, 60, 99, 999}};
        for (int errand = 0; errand < 2; errand++) {
            for (int what = 0; what < 4; what++) {
                numbers.due("errand " + errand + " " + what, due[errand][what]);
            }
        }
    }

    private static void fuelAndRun() {
        About told = terms(FUEL);
        told.due("count 3", 1);
        told.due("count 4", 10);
        told.town("f961;", -2000);
        told.town("f970;", -2000);
        told.town("f999;", -2000);
        told.due("count 3", 1);
        told.due("count 4", 10);
        told.town("f960;", 1);
        told.due("count 3", 9);
        told.due("count 4", 60);
        told.town("f000;", 1);
        told.due("count 3", 0);
        told.due("count 4", 0);

        // At first 10 MINUTES run on and cost 10, 11 do not.
        About atFirst = terms(FUEL, "pp50;pp00;w01010;e11099999;e11199999;d1;");
        atFirst.rowOf(0);
        atFirst.due("day 2", 10);
        atFirst.dueFraction("worth", 89, 1);
        atFirst.dueFraction("likely", 1, 1);
        atFirst.rowOf(1);
        atFirst.due("day 2", 0);
        atFirst.dueFraction("worth", 99, 1);
        atFirst.dueFraction("likely", 0, 1);
        atFirst.rowOf(0);
        atFirst.due("set 0 9", 1);
        atFirst.due("day 2", 90);
        atFirst.dueFraction("worth", 9, 1);
        atFirst.due("set 0 0", 9);
        atFirst.due("day 2", 0);
        atFirst.dueFraction("worth", 99, 1);
        atFirst.dueFraction("likely", 1, 1);
    }

    private static void driver() {
        About x = terms(DRIVER);
        x.due("count 5", 0);
        x.town("d6;", -2000);
        x.town("d9;", -2000);
        x.due("count 5", 0);
        x.town("d5;", 1);
        x.due("count 5", 5);
        x.town("d0;", 1);
        x.due("count 5", 0);
        // At first it is turned off, so it must START: STARTS are 2.
        About atFirst = terms(DRIVER, "pp50;pp10;w01010;e10110999;");
        atFirst.rowOf(0);
        atFirst.dueFraction("likely", 1, 5);
    }

    private static void letters() {
        String ways = "w01010;w12010;w23010;w34010;w45010;w56010;w67010;w07010;";
        About full = terms(LETTERS);
        full.spell(EIGHT + ways);
        full.due("count 8", 96);
        full.due("letter 59", -6);
        full.due("count 8", 96);
        full.due("town", 16);
        full.due("count 0", 8);
        full.due("count 1", 8);
        About open = terms(LETTERS);
        open.town("pp50", -1004);
        open.town("pp50;d0", -1007);
        open.town("d0pp50;", -1002);
        open.due("count 0", 0);
        terms("At least one STATEMENT.").town("", -1000);
        terms("At least one STATEMENT.").town(";", -1000);
        terms("At least one STATEMENT.").town("d0;", 1);
    }

    private static void shapes() {
        shape("\"p\" a letter of a KIND, SLOPE, PUSHERS (a digit each): a PLACE more;", "pp00;",
            new String[] {"pwbhkn", DIGITS, "0123", ";"}, new String[] {"", "", "456789", ""});
        shape("\"w\" two PLACES (a digit each), MINUTES (2 digits), LIGHTS (a digit): a WAY more;", "w01050;",
            new String[] {"0", "1", "012345", "123456789", DIGITS, ";"},
            new String[] {"123456789", "023456789", "6789", "0", "", ""});
        shape("\"e\" a PLACE (a digit), LASTS, WORTH (2 digits each), TILL (3 digits): an ERRAND more;", "e00510100;",
            new String[] {"01", "012345", "123456789", DIGITS, DIGITS, DIGITS, DIGITS, DIGITS, ";"},
            new String[] {"23456789", "6789", "0", "", "", "", "", "", ""});
        shape("\"f\" FUEL (a digit), RUN (2 digits);", "f105;",
            new String[] {DIGITS, "012345", DIGITS, ";"}, new String[] {"", "6789", "", ""});
        shape("\"d\" a DRIVER (a digit).", "d1;", new String[] {"012345", ";"}, new String[] {"6789", ""});
        for (int sign = 0; sign < 256; sign++) {
            if ("pwefd".indexOf(sign) < 0) {
                terms(FIRST_KIND).town((char) sign + "p00;", -1000);
            }
        }
    }

    /** Every sign at every place behind the first; cut short there; and one sign more than there must be. */
    private static void shape(String sentence, String statement, String[] taken, String[] outOfRange) {
        for (int at = 1; at < statement.length(); at++) {
            for (char sign = 0; sign < 256; sign++) {
                long want = -1000 - at;
                if (taken[at - 1].indexOf(sign) >= 0) {
                    want = 1;
                } else if (outOfRange[at - 1].indexOf(sign) >= 0) {
                    want = -2000;
                }
                About x = terms(sentence, "pp50;pp50;");
                x.town(statement.substring(0, at) + sign + statement.substring(at + 1), want);
                x.due("count 8", 0);
            }
            terms(sentence, "pp50;pp50;").town(statement.substring(0, at), -1000 - at);
        }
        int end = statement.length() - 1;
        terms(sentence, "pp50;pp50;").town(statement.substring(0, end) + "0;", -1000 - end);
        About twice = terms(sentence, "pp50;pp50;");
        twice.town(statement + ";", -1000 - statement.length());
        twice.town(statement, 1);
    }

    private static void firstKindOfFault() {
        terms(FIRST_KIND).town("", -1000);
        terms(FIRST_KIND).town("x", -1000);
        terms(FIRST_KIND).town("pp00;x;pp0x;", -1005);
        // The last place of a letter, and the end behind it.
        terms(FIRST_KIND).town("d0;".repeat(31) + "d0x", -1095);
        terms(FIRST_KIND).town("d0;".repeat(31) + "d00", -1095);
        terms(FIRST_KIND).town("pp00;".repeat(19) + "p", -1096);
        terms(FIRST_KIND).town("d0;".repeat(31) + "d", -1094);
    }

    private static void secondKindOfFault() {
        // Kind 1 comes first, wherever it is.
        About both = terms(SECOND_KIND);
        both.town("d6;x", -1003);
        both.town("pp04;pp50", -1009);
        both.town("pp04;pp50;", -2000);
        both.town("pp50;pp04;d6;", -2005);
        both.town("d0;".repeat(31) + "d6;", -2093);
        both.due("count 0", 0);

        About range = terms(SECOND_KIND, "pp50;pp50;");
        for (String wrong : new String[] {"pp04;", "w01000;", "w01610;", "e00010100;", "e06110100;", "f161;", "d6;"}) {
            range.town(wrong, -2000);
            range.town("d1;" + wrong, -2003);
        }
        range.due("count 5", 0);

        About ahead = terms(SECOND_KIND);
        ahead.town("w01010;pp50;pp50;", -2000);
        ahead.town("pp50;w01010;pp50;", -2005);
        ahead.town("pp50;w10010;pp50;", -2005);
        ahead.town("e00110999;pp50;", -2000);
        ahead.town("pp50;e10110999;pp50;", -2005);
        ahead.town("pp50;pp50;w01010;e10110999;", 4);
        ahead.town("w12010;", -2000);
        ahead.town("e20110999;", -2000);
        ahead.town("pp50;w12010;e20110999;", 3);

        About twice = terms(SECOND_KIND, "pp50;pp50;");
        twice.town("w00010;", -2000);
        twice.town("w11010;", -2000);
        twice.due("count 1", 0);

        About there = terms(SECOND_KIND, "pp50;pp50;");
        there.town("w01010;w01020;", -2007);
        there.town("w01010;w10020;", -2007);
        there.due("count 1", 0);
        there.town("w01010;", 1);
        there.town("w01010;", -2000);
        there.town("w10010;", -2000);

        About room = terms(SECOND_KIND, EIGHT);
        room.town("pp50;", -2000);
        room.town("e00110999;".repeat(6), -2050);
        room.due("count 2", 0);
        // FUEL, RUN and the DRIVER may be told again and again.
        room.town("d1;d1;f105;f105;d2;", 5);
    }

    private static void allOrNothing() {
        String sentence = "Without FAULT all of it comes, with one nothing.";
        String all = "pp32;pw41;w01053;e10720300;f307;d4;";
        About comes = terms(sentence, all);
        int[] counts = {2, 1, 1, 3, 7, 4, 20};
        for (int what = 0; what < counts.length; what++) {
            comes.due("count " + what, counts[what]);
        }
        About nothing = terms(sentence);
        nothing.town(all + "d6;", -2035);
        nothing.town(all + "d", -1036);
        int[] none = {0, 0, 0, 1, 10, 0, 0};
        for (int what = 0; what < none.length; what++) {
            nothing.due("count " + what, none[what]);
        }
        // What was there stays, its ways as well.
        About stays = terms(sentence, "pp50;pp50;pp50;w01050;w12050;");
        stays.town("w02010;d6;", -2007);
        stays.due("leg 0 2 0", 10);
        stays.town("w02010;", 1);
        stays.due("leg 0 2 0", 1);
        stays.due("leg 0 1 0", 5);
    }

    private static void kinds() {
        startsBySlope("KINDS of PLACES, STARTS (tenths by which it starts there): p PLACE: twice SLOPE, 10 at most.",
            "pp", "0123", 0, 2, 4, 6, 8, 10, 10, 10, 10, 10);
        startsBySlope("w WET under PLACE: 2 less, 0 at least.", "pw", "0123", 0, 0, 2, 4, 6, 8, 8, 8, 8, 8);
        startsBySlope("b BUMPY under PLACE: 1 more, 10 at most.", "pb", "0123", 1, 3, 5, 7, 9, 10, 10, 10, 10, 10);
        startsBySlope("h HILL under BUMPY: 10, if SLOPE is above 0; else as a BUMPY one.", "ph", "0123",
            1, 10, 10, 10, 10, 10, 10, 10, 10, 10);
        startsBySlope("k KERB under WET: half of a WET one's, cut.", "pk", "0123", 0, 0, 1, 2, 3, 4, 4, 4, 4, 4);
        String narrow = "n NARROW under BUMPY: as a BUMPY one, 3 less for each of PUSHERS that lacks to 2, 0 at least.";
        startsBySlope(narrow, "pn", "0", 0, 0, 0, 1, 3, 4, 4, 4, 4, 4);
        startsBySlope(narrow, "pn", "1", 0, 0, 2, 4, 6, 7, 7, 7, 7, 7);
        startsBySlope(narrow, "pn", "23", 1, 3, 5, 7, 9, 10, 10, 10, 10, 10);
    }

    /** Told by letters and by slope(), with each of so many PUSHERS. */
    private static void startsBySlope(String sentence, String kind, String pushers, int... starts) {
        for (char pusher : pushers.toCharArray()) {
            About changed = terms(sentence, kind + "0" + pusher + ";");
            for (int slope = 0; slope <= 9; slope++) {
                changed.ask("slope 0 " + slope);
                changed.due("place 0 3", starts[slope]);
                About told = terms(sentence, kind + slope + pusher + ";");
                told.due("place 0 3", starts[slope]);
                told.dueFraction("likely", starts[slope] == 0 ? 0 : starts[slope] / common(starts[slope]),
                    starts[slope] == 0 ? 1 : 10 / common(starts[slope]));
            }
        }
    }

    /** The greatest number that divides so many tenths and ten. */
    private static int common(int tenths) {
        return tenths == 10 ? 10 : tenths == 5 ? 5 : tenths % 2 == 0 ? 2 : 1;
    }

    private static void pushed() {
        String sentence = "PUSHED: 2 more for each of PUSHERS, 10 at most.";
        int[][] none = {{0, 2, 4, 6}, {2, 4, 6, 8}, {4, 6, 8, 10}, {6, 8, 10, 10}, {8, 10, 10, 10}, {10, 10, 10, 10}};
        for (int slope = 0; slope < none.length; slope++) {
            for (int pushers = 0; pushers <= 3; pushers++) {
                About x = terms(sentence, "pp" + slope + pushers + ";");
                x.due("place 0 4", none[slope][pushers]);
                x.due("place 0 3", none[slope][0]);
            }
        }
        // NARROW: what lacks counts for STARTS, what is there for PUSHED: 0, 0 + 2, 1 + 4, 1 + 6; 3, 6 + 2, 10, 10.
        int[] flat = {0, 2, 5, 7};
        int[] steep = {3, 8, 10, 10};
        for (int pushers = 0; pushers <= 3; pushers++) {
            terms(sentence, "pn0" + pushers + ";").due("place 0 4", flat[pushers]);
            terms(sentence, "pn4" + pushers + ";").due("place 0 4", steep[pushers]);
        }
        terms(sentence, "pb41;").due("place 0 4", 10);
        terms(sentence, "pk93;").due("place 0 4", 10);
        terms(sentence, "pk83;pk33;").due("place 1 4", 8);
    }

    private static void legs() {
        String sentence = "A LEG from PLACE to PLACE: the way with least MINUTES together, of these the one whose "
            + "greatest LIGHTS are least: MINUTES, STALLS (that greatest; 0 on the same PLACE).";
        // Three ways of 10 MINUTES: straight with 5, over 2 with 9, over 3 with 1.
        About even = terms(sentence, "pp50;pp50;pp50;pp50;w01105;w02059;w21054;w03050;w31051;");
        dueBothWays(even, "leg", 0, 1, 10, 1);
        // One MINUTE less outweighs all LIGHTS.
        About less = terms(sentence, "pp50;pp50;pp50;w01110;w02059;w21059;");
        dueBothWays(less, "leg", 0, 1, 10, 9);
        About first = terms(sentence, "pp50;pp50;pp50;w01017;w12013;");
        dueBothWays(first, "leg", 0, 2, 2, 7);
        About same = terms(sentence, "pp50;pp50;w01019;");
        dueBothWays(same, "leg", 0, 0, 0, 0);
        dueBothWays(same, "leg", 1, 1, 0, 0);
        About longest = terms(sentence, EIGHT, "w01600;w12600;w23600;w34609;w45600;w56600;w67600;");
        dueBothWays(longest, "leg", 0, 7, 420, 9);
        dueBothWays(longest, "leg", 4, 7, 180, 0);
    }

    private static void safeWays() {
        String sentence = "SAFE: the way whose greatest LIGHTS are least, of these the one with least MINUTES.";
        // Three ways with greatest LIGHTS 3: straight in 60, over 2 in 40, over 3 in 39.
        About even = terms(sentence, "pp50;pp50;pp50;pp50;w01603;w02203;w21201;w03193;w31200;");
        dueBothWays(even, "safe", 0, 1, 39, 3);
        // One tenth less outweighs all MINUTES.
        About less = terms(sentence, "pp50;pp50;pp50;w01013;w02602;w21602;");
        dueBothWays(less, "safe", 0, 1, 120, 2);
        dueBothWays(less, "leg", 0, 1, 1, 3);
        About same = terms(sentence, "pp50;pp50;w01019;");
        dueBothWays(same, "safe", 0, 0, 0, 0);
        dueBothWays(same, "safe", 0, 1, 1, 9);
        About longest = terms(sentence, EIGHT, "w01600;w12600;w23600;w34608;w45600;w56600;w67600;w07019;");
        dueBothWays(longest, "safe", 0, 7, 420, 8);
        dueBothWays(longest, "leg", 0, 7, 1, 9);
    }

    private static void noWay() {
        String sentence = "None: there is none.";
        About none = terms(sentence, "pp50;pp50;");
        About apart = terms(sentence, "pp50;pp50;pp50;pp50;w02010;w13010;");
        for (About x : new About[] {none, apart}) {
            dueBothWays(x, "leg", 0, 1, -9, -9);
            dueBothWays(x, "safe", 0, 1, -9, -9);
            dueBothWays(x, "leg", 1, 1, 0, 0);
            dueBothWays(x, "safe", 0, 0, 0, 0);
        }
        apart.town("w32600;", 1);
        dueBothWays(apart, "leg", 0, 1, 62, 0);
    }

    private static void dueBothWays(About x, String name, int from, int to, int minutes, int stalls) {
        x.due(name + " " + from + " " + to + " 0", minutes);
        x.due(name + " " + to + " " + from + " 0", minutes);
        x.due(name + " " + from + " " + to + " 1", stalls);
        x.due(name + " " + to + " " + from + " 1", stalls);
    }
}
