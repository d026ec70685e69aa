import java.util.ArrayList;
import java.util.List;

/** What a refusal is, which comes first, and that it changes nothing but how many there were; nor does a question. */
final class RefusalBoundaries {
    private static final String CHANGES = "REFUSALS (the call answers the number, the first that fits in the order in "
        + "which it tells them; nothing changes but how many there were):";
    private static final long LONGS = 4000000000000000000L;

    private RefusalBoundaries() {
    }

    static void lookAtAll() {
        numbers();
        longs();
        refusedWithTown();
        refusedWithoutPlaces();
        refusedWhereFull();
        faults();
        questions();
    }

    private static About terms(String sentence, String... towns) {
        return new About(About.TERMS, sentence, towns);
    }

    private static void numbers() {
        About nobody = terms("-1 NOBODY: no such PLACE, ERRAND.", "pp50;e00110999;");
        nobody.due("place 0 0", 0);
        nobody.due("place 1 0", -1);
        nobody.due("place -1 0", -1);
        nobody.due("errand 0 0", 0);
        nobody.due("errand 1 0", -1);
        nobody.due("errand -1 0", -1);
        nobody.due("best 0 1", -1);
        nobody.due("count 11", 5);
        About other = terms("-2 OTHER: what, KIND.", "pp50;");
        other.due("place 0 4", 10);
        other.due("place 0 5", -2);
        other.due("best 3 0", -2);
        other.due("count 12", 2);
        About state = terms("-3 STATE: it is not as it must be.");
        state.due("sure", -3);
        state.due("on", -3);
        state.due("count 13", 2);
        About below = terms("-4 BELOW: a number below the least.");
        below.due("letter -1", -4);
        below.due("row -1", -4);
        below.due("lots 0 0", -4);
        below.due("count 14", 3);
        About room = terms("-6 ROOM: a number above the greatest, no room.");
        room.due("letter 256", -6);
        room.due("row 10", -6);
        room.rowOf(0, 0, 0, 0, 0, 0, 0, 0, 0, 0);
        room.due("row 0", -6);
        room.due("count 16", 3);
        room.due("count 15", 0);
    }

    private static void longs() {
        String sentence = "Of longs 4000000000000000000 less them (-1 as 4000000000000000001).";
        About x = terms(sentence);
        for (String name : new String[] {"likely", "worth", "hill", "bestLikely 0", "bestWorth 0"}) {
            x.due(name + " 2", LONGS + 2);
            x.due(name + " 0", LONGS + 3);
        }
        x.due("count 12", 5);
        x.due("count 13", 5);
    }

    /** All that can be told of a town with up to two PLACES without changing it; first how many REFUSALS there were. */
    private static long[] told(About x) {
        List<Long> answers = new ArrayList<>();
        for (int what = 11; what <= 16; what++) {
            answers.add(x.ask("count " + what));
        }
        for (int what = 0; what <= 8; what++) {
            answers.add(x.ask("count " + what));
        }
        long places = answers.get(6);
        for (int place = 0; place < places; place++) {
            for (int what = 0; what <= 4; what++) {
                answers.add(x.ask("place " + place + " " + what));
            }
        }
        if (places > 0) {
            String last = String.valueOf(places - 1);
            for (String question : new String[] {"leg 0 " + last + " 0", "leg 0 " + last + " 1", "safe 0 " + last + " 0",
                "day 0", "day 1", "day 2", "likely 0", "likely 1", "worth 0", "worth 1", "judge", "bestMinutes 2"}) {
                answers.add(x.ask(question));
            }
        }
        for (int errand = 0; errand < answers.get(8); errand++) {
            for (int what = 0; what <= 3; what++) {
                answers.add(x.ask("errand " + errand + " " + what));
            }
        }
        return answers.stream().mapToLong(Long::longValue).toArray();
    }

    /** A town that has grown since its IMAGE was taken, with a ROW and letters. */
    private static About withTown(String sentence) {
        About x = terms(sentence);
        tellTown(x);
        return x;
    }

    private static void tellTown(About x) {
        x.town("pw42;", 1);
        x.due("image", 1);
        x.town("pn31;w01073;e10512100;e00220003;f406;d2;", 6);
        x.rowOf(1, 0, 7);
        x.spell("d4");
    }

    /** The letters, the ROW and the IMAGE, too, are as they were. */
    private static void dueAsWithTown(About x) {
        x.due("letter 59", 3);
        x.due("town", 1);
        x.due("count 5", 4);
        x.due("judge", 0);
        x.due("clear", 3);
        x.due("on", 1);
        x.due("count 3", 1);
        x.due("place 0 1", 4);
    }

    private static void dueRefused(About x, String call, int refusal) {
        long[] want = told(x);
        boolean isLong = call.startsWith("likely") || call.startsWith("worth") || call.startsWith("hill")
            || call.startsWith("bestLikely") || call.startsWith("bestWorth");
        x.due(call, isLong ? LONGS - refusal : refusal);
        want[-refusal - 1]++;
        x.dueAlike("told after " + call, told(x), want);
    }

    private static void refusedWithTown() {
        String[][] calls = {
            {"place -1 9", "place 2 0", "slope 2 0", "slope -1 10", "slope 2 -1", "errand 2 0", "errand -1 4", "leg 0 2 0",
                "leg 2 0 2", "safe -1 0 0", "safe 0 2 2", "best 0 2", "best 2 -1", "onFoot 2 0 0", "onFoot 0 -1 2",
                "onTheWay 2 0 0", "onTheWay 0 2 0", "onTheWay 0 0 -1"},
            {"place 0 5", "place 1 -1", "errand 0 4", "errand 1 -1", "set 3 0", "set -1 -1", "set 3 61", "leg 0 1 2",
                "safe 0 1 -1", "day 3", "day -1", "likely 2", "worth -1", "best 3 0", "best -1 9", "bestMinutes 3",
                "bestLikely 3 0", "bestLikely 0 2", "bestWorth -1 0", "bestWorth 0 -1", "hill 2", "onFoot 0 1 2"},
            {},
            {"letter -1", "slope 0 -1", "set 0 -1", "set 1 -1", "set 2 -1", "mend -1 1", "mend 0 0", "mend -1 100",
                "mend 1000 0", "mendFrom -1", "row -1", "lots 0 5"},
            {},
            {"letter 256", "slope 0 10", "set 0 10", "set 1 61", "set 2 6", "mend 1000 1", "mend 0 100", "mendFrom 1000",
                "row 10", "lots 21 5"}};
        for (int i = 0; i < calls.length; i++) {
            for (String call : calls[i]) {
                About x = withTown(CHANGES);
                dueRefused(x, call, -i - 1);
                dueAsWithTown(x);
            }
        }
    }

    private static void refusedWithoutPlaces() {
        String[] calls = {"day 0", "day 2", "likely 0", "worth 1", "best 0 0", "best 2 -1", "bestMinutes 0", "bestLikely 2 1",
            "bestWorth 0 0", "sure", "bestDriver", "leftOut", "runOn", "push", "hill 0", "mend 0 1", "mend 999 99",
            "mendFrom 0", "mendFrom 999", "judge", "lots 1 0", "lots 20 0", "on"};
        for (String call : calls) {
            About x = terms(CHANGES, "f406;d2;");
            x.rowOf(1, 0, 7);
            x.spell("pp50");
            dueRefused(x, call, -3);
            x.due("letter 59", 5);
            x.due("town", 1);
            x.due("clear", 3);
            x.due("on", -3);
        }
        String[] first = {"day 3", "likely 2", "worth 2", "best 3 9", "bestMinutes -1", "bestLikely 3 2", "bestWorth 0 2",
            "hill -1"};
        for (String call : first) {
            dueRefused(terms(CHANGES), call, -2);
        }
        for (String call : new String[] {"mend -1 1000", "mend 1000 0", "mendFrom -1", "lots 0 0"}) {
            dueRefused(terms(CHANGES), call, -4);
        }
        for (String call : new String[] {"mend 1000 1", "mend 0 100", "mendFrom 1000", "lots 21 0"}) {
            dueRefused(terms(CHANGES), call, -6);
        }
        for (String call : new String[] {"place 0 5", "slope 0 -1", "slope 0 10", "errand 0 4", "leg 0 0 2", "safe 0 0 2",
            "onFoot 0 0 2", "onTheWay 0 0 0"}) {
            dueRefused(terms(CHANGES), call, -1);
        }
    }

    private static void refusedWhereFull() {
        for (int letter : new int[] {0, 255, 256}) {
            About x = terms(CHANGES);
            x.spell("d3;".repeat(32));
            dueRefused(x, "letter " + letter, -6);
            dueRefused(x, "letter -1", -4);
            x.due("town", 32);
            x.due("count 5", 3);
        }
        for (int number : new int[] {0, 9, 10}) {
            About x = terms(CHANGES, "pp50;e00710999;e00310999;");
            x.rowOf(1, 9, 9, 9, 9, 9, 9, 9, 9, 9);
            dueRefused(x, "row " + number, -6);
            dueRefused(x, "row -1", -4);
            x.due("day 1", 2);
            x.due("clear", 10);
        }
    }

    /** A FAULT is no refusal: nothing is counted, nothing changes, but the letters are no more. */
    private static void faults() {
        dueFault("d4x", -1002);
        dueFault("d4", -1002);
        dueFault("d4;d", -1004);
        dueFault("d4;d6;", -2003);
        dueFault("pp50;w02010;f000;d0;w00010;", -2020);
        dueFault("e00110999;e00110999;e00110999;e00110999;", -2030);
    }

    private static void dueFault(String text, long fault) {
        About x = new About(3, "the FAULT (nothing is counted).");
        tellTown(x);
        x.due("letter 59", 3);
        x.due("town", 1);
        long[] want = told(x);
        x.town(text, fault);
        x.dueAlike("told after " + text, told(x), want);
        x.spell("d4");
        dueAsWithTown(x);
    }

    /** What is asked leaves all as it was, as far as any sentence tells a change. */
    private static void questions() {
        String[] calls = {"place 0 0", "errand 0 3", "leg 1 0 1", "safe 1 0 1", "day 0", "likely 1", "worth 0", "best 0 0",
            "best 1 1", "best 2 0", "bestMinutes 0", "bestLikely 1 0", "bestWorth 2 0", "sure", "bestDriver", "leftOut",
            "runOn", "push", "hill 0", "mend 999 99", "mendFrom 999", "onFoot 0 1 0", "onTheWay 1 0 0", "judge", "lots 20 7",
            "count 6", "count 99"};
        for (String call : calls) {
            About x = withTown("THE IMAGE: all that there is, but it, the ROW, letters, REFUSALS; ON from it all is as then.");
            long[] want = told(x);
            long first = x.ask(call);
            x.dueAlike("told after " + call, told(x), want);
            x.due(call, first);
            dueAsWithTown(x);
        }
    }
}
