/** Calls the class by a method's name, so that tests can tell calls as texts. */
final class Caller {
    private final OnlyDownhill x = new OnlyDownhill();

    static int arguments(String name) {
        switch (name) {
            case "town": case "sure": case "bestDriver": case "leftOut": case "runOn": case "push":
            case "clear": case "judge": case "image": case "on":
                return 0;
            case "letter": case "day": case "likely": case "worth": case "bestMinutes": case "hill":
            case "mendFrom": case "row": case "count":
                return 1;
            case "leg": case "safe": case "onFoot": case "onTheWay":
                return 3;
            default:
                return 2;
        }
    }

    long call(String name, int... a) {
        switch (name) {
            case "letter": return x.letter(a[0]);
            case "town": return x.town();
            case "place": return x.place(a[0], a[1]);
            case "slope": return x.slope(a[0], a[1]);
            case "errand": return x.errand(a[0], a[1]);
            case "set": return x.set(a[0], a[1]);
            case "leg": return x.leg(a[0], a[1], a[2]);
            case "safe": return x.safe(a[0], a[1], a[2]);
            case "day": return x.day(a[0]);
            case "likely": return x.likely(a[0]);
            case "worth": return x.worth(a[0]);
            case "best": return x.best(a[0], a[1]);
            case "bestMinutes": return x.bestMinutes(a[0]);
            case "bestLikely": return x.bestLikely(a[0], a[1]);
            case "bestWorth": return x.bestWorth(a[0], a[1]);
            case "sure": return x.sure();
            case "bestDriver": return x.bestDriver();
            case "leftOut": return x.leftOut();
            case "runOn": return x.runOn();
            case "push": return x.push();
            case "hill": return x.hill(a[0]);
            case "mend": return x.mend(a[0], a[1]);
            case "mendFrom": return x.mendFrom(a[0]);
            case "onFoot": return x.onFoot(a[0], a[1], a[2]);
            case "onTheWay": return x.onTheWay(a[0], a[1], a[2]);
            case "row": return x.row(a[0]);
            case "clear": return x.clear();
            case "judge": return x.judge();
            case "lots": return x.lots(a[0], a[1]);
            case "image": return x.image();
            case "on": return x.on();
            case "count": return x.count(a[0]);
            default: throw new IllegalArgumentException(name);
        }
    }
}
