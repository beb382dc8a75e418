/** A test for each sentence on hours (the terms) and of the promises 3 to 7 that names a boundary case. */
public final class EdgesOfWardenTest {
    public static void main(String[] args) {
        atFirstNoHourWentBy();
        nextHourIsThePast();
        whatWasLentWasSlept();
        nextNightBegins();
        refusalsAndFavoursStay();
        askingsDoNotReachIntoTheNextNight();
        nightAfterNight();
        howManySlept();
        passIsUndoable();
        nightsEnded999();
        giveBackFromOneHourOn();
        giveBackWithoutAGap();
        giveBackRefusedWithoutABed();
        giveBackRefusedOfWhatWentBy();
        giveBackArguments();
        favoursAreAtMostThree();
        favourArguments();
        needIsChanged();
        needArguments();
        settingIsChanged();
        settingArguments();
        Check.end();
    }

    // ---- hours, and promise 6

    /** "At first no hour of the night went by." */
    private static void atFirstNoHourWentBy() {
        SevenAsks x = new SevenAsks();
        Check.due("hours that went by", x.count(0), 0);
        Check.due("nights that ended", x.count(1), 0);
        Check.due("the first hour", x.ask(9, 0, 1), 10);
        Check.due("given back", x.giveBack(9, 0), 1);
        Check.due("slept", x.count(3), 0);
    }

    /** "When an hour goes by, the next one of those that did not is the past". */
    private static void nextHourIsThePast() {
        SevenAsks x = new SevenAsks();
        for (int gone = 0; gone < 12; gone++) {
            Check.due("hours that went by", x.count(0), gone);
            Check.due("this hour", x.ifAsked(9, gone, 1), 10);
            Check.due("the hour before", gone == 0 ? 1 : x.ifAsked(9, gone - 1, 1), 1);
            Check.due("the last hour", x.ifAsked(9, 11, 1), 10);
            x.pass();
        }
        Check.due("hours that went by", x.count(0), 0);
    }

    /** "what was lent in it was slept": the hour that goes by, not the ones beside it. */
    private static void whatWasLentWasSlept() {
        SevenAsks x = new SevenAsks();
        x.ask(3, 0, 1);
        x.ask(4, 1, 1);
        x.ask(5, 2, 2);
        x.ask(6, 11, 1);
        int[] slept = {1, 2, 3, 4, 4, 4, 4, 4, 4, 4, 4, 5};
        for (int hour = 0; hour < 12; hour++) {
            x.pass();
            Check.due("slept up to hour " + hour, x.count(3), slept[hour]);
            Check.due("by lodger 3", x.lodgerOf(3, 4), 1);
            Check.due("by lodger 4", x.lodgerOf(4, 4), hour < 1 ? 0 : 1);
            Check.due("by lodger 5", x.lodgerOf(5, 4), Math.max(0, Math.min(2, hour - 1)));
            Check.due("by lodger 6", x.lodgerOf(6, 4), hour < 11 ? 0 : 1);
            Check.due("it is lent still", x.count(2), hour < 11 ? 5 : 0);
        }
        SevenAsks y = new SevenAsks();
        y.ask(9, 0, 1);
        y.giveBack(9, 0);
        y.pass();
        Check.due("given back is not slept", y.count(3), 0);
    }

    /** "When all 12 went by, the next night begins: all beds are free in all hours, and no hour went by". */
    private static void nextNightBegins() {
        SevenAsks x = new SevenAsks();
        for (int lodger = 3; lodger <= 6; lodger++) {
            x.ask(lodger, 0, 9);
            x.ask(lodger, 9, 3);
        }
        Check.pass(x, 11);
        Check.due("11 went by", x.count(0), 11);
        Check.due("no night ended", x.count(1), 0);
        Check.due("all is lent", x.count(2), 48);
        Check.due("the last hour", x.pass(), 4);
        Check.due("no hour went by", x.count(0), 0);
        Check.due("a night ended", x.count(1), 1);
        Check.due("nothing is lent", x.count(2), 0);
        for (int bed = 0; bed < 4; bed++) {
            Check.bedDue(x, bed, "............");
        }
        Check.due("slept", x.count(3), 48);
        Check.due("the first hour again", x.ask(9, 0, 9), 10);
        Check.due("all of the night", x.longest(3, 0), 9);
        Check.due("hours lent to lodger 3", x.lodgerOf(3, 3), 0);
        Check.due("hours slept by lodger 3", x.lodgerOf(3, 4), 12);
    }

    /** "refusals and favours stay": so does all else but the beds and the hours. */
    private static void refusalsAndFavoursStay() {
        SevenAsks x = new SevenAsks();
        Check.refuse(x, 0, 7);
        Check.refuse(x, 1, 6);
        x.favour(2);
        x.favour(2);
        x.favour(2);
        x.need(8, 1);
        x.set(4);
        Check.pass(x, 12);
        Check.due("7 refusals", x.lodgerOf(0, 1), 7);
        Check.due("6 refusals", x.lodgerOf(1, 1), 6);
        Check.due("favours", x.lodgerOf(2, 2), 3);
        Check.due("the need", x.lodgerOf(8, 0), 1);
        Check.due("the setting", x.count(9), 4);
        Check.due("refused", x.count(5), 13);
        Check.due("an eighth asking in the next night", x.ask(0, 0, 1), 10);
        Check.due("a favour in the next night", x.ask(2, 0, 1), 11);
    }

    /** The night has 12 hours: an asking ends with the last one, in each night. */
    private static void askingsDoNotReachIntoTheNextNight() {
        SevenAsks x = new SevenAsks();
        Check.pass(x, 11);
        Check.due("the last hour", x.ask(9, 11, 1), 10);
        Check.throwsOnly(() -> afterHours(11), "ask(8, 11, 2)", IllegalArgumentException.class, y -> y.ask(8, 11, 2));
        x.pass();
        Check.due("free in the next night", x.at(0, 0), -1);
        Check.due("not lent in it", x.lodgerOf(9, 3), 0);
    }

    private static SevenAsks afterHours(int hours) {
        SevenAsks x = new SevenAsks();
        Check.pass(x, hours);
        return x;
    }

    /** The wrap-around holds night after night. */
    private static void nightAfterNight() {
        SevenAsks x = new SevenAsks();
        for (int night = 0; night < 20; night++) {
            Check.due("nights that ended", x.count(1), night);
            x.ask(9, 11, 1);
            x.ask(8, 0, 1);
            for (int hour = 0; hour < 12; hour++) {
                Check.due("sleepers", x.pass(), hour == 0 || hour == 11 ? 1 : 0);
            }
            Check.due("slept", x.count(3), 2 * night + 2);
        }
    }

    /** "Returns how many lodgers slept in it": none to four. */
    private static void howManySlept() {
        SevenAsks x = new SevenAsks();
        for (int bed = 0; bed < 4; bed++) {
            x.ask(9 - bed, bed + 1, 4);
        }
        int[] want = {0, 1, 2, 3, 4, 3, 2, 1, 0, 0, 0, 0};
        for (int hour = 0; hour < 12; hour++) {
            Check.due("sleepers in hour " + hour, x.pass(), want[hour]);
        }
    }

    /** "Undoable", also over the end of a night. */
    private static void passIsUndoable() {
        Check.undoable(SevenAsks::new, "the first hour", x -> x.pass());
        Check.undoable(Check::busy, "an hour", x -> Check.due("two sleep", x.pass(), 2));
        Check.undoable(() -> lentInTheLastHour(), "the last hour", x -> Check.due("one sleeps", x.pass(), 1));
        Check.undoable(() -> afterHours(12), "the first hour of the second night", x -> x.pass());
    }

    private static SevenAsks lentInTheLastHour() {
        SevenAsks x = new SevenAsks();
        x.ask(9, 10, 2);
        Check.pass(x, 11);
        return x;
    }

    private static SevenAsks after999Nights() {
        return afterHours(999 * 12);
    }

    /** "IllegalStateException if 999 nights ended": not ahead of it. Nearer than 512 calls can't be seen. */
    private static void nightsEnded999() {
        SevenAsks x = afterHours(999 * 12 - 1);
        Check.due("nights that ended", x.count(1), 998);
        Check.due("the last hour of the last night", x.pass(), 0);
        Check.due("nights that ended", x.count(1), 999);
        Check.throwsOnly(() -> after999Nights(), "pass()", IllegalStateException.class, y -> y.pass());
        Check.due("an asking is right still", x.ask(9, 0, 1), 10);
    }

    // ---- promise 3

    /** "the hours from one on": the first of a piece, one in the middle, the last; in each bed. */
    private static void giveBackFromOneHourOn() {
        for (int bed = 0; bed < 4; bed++) {
            for (int hour = 3; hour <= 8; hour++) {
                SevenAsks x = Check.alone(9, bed, 3, 6);
                Check.due("from hour " + hour, x.giveBack(9, hour), 9 - hour);
                Check.due("hours that are left", x.lodgerOf(9, 3), hour - 3);
                Check.bedDue(x, bed, "...999999...".substring(0, hour) + "............".substring(hour));
                Check.due("lent", x.count(2), hour - 3);
            }
        }
    }

    /** "as long as the lodger has this bed without a gap". */
    private static void giveBackWithoutAGap() {
        SevenAsks x = new SevenAsks();
        x.ask(9, 0, 2);
        x.ask(9, 2, 2);
        x.ask(9, 5, 2);
        x.ask(8, 7, 1);
        x.ask(9, 8, 4);
        Check.bedDue(x, 0, "9999.9989999");
        Check.due("up to the gap, two askings", x.giveBack(9, 1), 3);
        Check.bedDue(x, 0, "9....9989999");
        Check.due("up to another", x.giveBack(9, 5), 2);
        Check.bedDue(x, 0, "9......89999");
        Check.due("up to the last hour", x.giveBack(9, 8), 4);
        Check.bedDue(x, 0, "9......8....");
        Check.due("one hour", x.giveBack(9, 0), 1);
        Check.bedDue(x, 0, ".......8....");
        SevenAsks y = new SevenAsks();
        y.ask(8, 3, 1);
        y.ask(9, 2, 2);
        y.ask(9, 4, 2);
        Check.bedDue(y, 0, "...899......");
        Check.bedDue(y, 1, "..99........");
        Check.due("this bed alone", y.giveBack(9, 2), 2);
        Check.bedDue(y, 0, "...899......");
        Check.bedDue(y, 1, "............");
        Check.due("refusals stay", y.lodgerOf(9, 1), 0);
    }

    /** "NONE if it is refused, as the lodger has no bed in that hour". */
    private static void giveBackRefusedWithoutABed() {
        SevenAsks x = new SevenAsks();
        x.ask(9, 3, 2);
        Check.due("the hour in front", x.giveBack(9, 2), -1);
        Check.due("the hour behind", x.giveBack(9, 5), -1);
        Check.due("another's", x.giveBack(0, 3), -1);
        Check.due("the first hour", x.giveBack(9, 0), -1);
        Check.due("the last hour", x.giveBack(9, 11), -1);
        Check.due("refused", x.count(10), 5);
        Check.due("lent", x.count(2), 2);
        Check.due("it is no asking that was refused", x.count(5), 0);
        Check.undoable(Check::busy, "giveBack, refused", y -> Check.due("none", y.giveBack(9, 5), -1));
        Check.undoable(Check::busy, "giveBack", y -> Check.due("three", y.giveBack(3, 2), 3));
    }

    /** "or it went by". */
    private static void giveBackRefusedOfWhatWentBy() {
        for (int gone = 0; gone <= 5; gone++) {
            for (int hour = 0; hour <= 4; hour++) {
                SevenAsks x = new SevenAsks();
                x.ask(9, 0, 5);
                Check.pass(x, gone);
                Check.due(gone + " went by, hour " + hour, x.giveBack(9, hour), hour < gone ? -1 : 5 - hour);
                Check.due("refused", x.count(10), hour < gone ? 1 : 0);
                Check.due("lent", x.count(2), hour < gone ? 5 : hour);
            }
        }
        Check.undoable(Check::busy, "giveBack, went by", y -> Check.due("none", y.giveBack(3, 1), -1));
    }

    /** "lodger: 0 to 9", "hour: 0 to 11", and the exception that is named first. */
    private static void giveBackArguments() {
        int[] none = {-1, 12, Integer.MIN_VALUE, Integer.MAX_VALUE};
        for (int hour : none) {
            Check.throwsOnly(Check::busy, "giveBack(9, " + hour + ")", IllegalArgumentException.class,
                    x -> x.giveBack(9, hour));
            Check.throwsOnly(Check::busy, "giveBack(10, " + hour + ")", IndexOutOfBoundsException.class,
                    x -> x.giveBack(10, hour));
            Check.throwsOnly(Check::busy, "giveBack(-1, " + hour + ")", IndexOutOfBoundsException.class,
                    x -> x.giveBack(-1, hour));
        }
    }

    // ---- promises 4, 5 and 7

    /** "Returns the favours of the lodger then; NONE if it is refused, as the lodger has 3." */
    private static void favoursAreAtMostThree() {
        SevenAsks x = new SevenAsks();
        for (int lodger = 0; lodger <= 9; lodger += 9) {
            for (int call = 1; call <= 5; call++) {
                Check.due("favour " + call, x.favour(lodger), call <= 3 ? call : -1);
                Check.due("favours", x.lodgerOf(lodger, 2), Math.min(3, call));
            }
        }
        Check.due("refused", x.count(10), 4);
        Check.due("no asking was refused", x.count(5), 0);
        Check.due("used up by an asking", x.ask(0, 0, 1), 10);
        Check.due("the third one again", x.favour(0), 3);
        Check.undoable(Check::busy, "favour, refused", y -> Check.due("none", y.favour(9), -1));
        Check.undoable(Check::busy, "favour", y -> Check.due("one", y.favour(8), 1));
    }

    /** "lodger: 0 to 9". */
    private static void favourArguments() {
        int[] none = {-1, 10, Integer.MIN_VALUE, Integer.MAX_VALUE};
        for (int lodger : none) {
            Check.throwsOnly(Check::busy, "favour(" + lodger + ")", IndexOutOfBoundsException.class,
                    x -> x.favour(lodger));
        }
    }

    /** "Returns the need before"; "Undoable", also if nothing is changed. */
    private static void needIsChanged() {
        SevenAsks x = new SevenAsks();
        Check.due("before", x.need(0, 9), 0);
        Check.due("before", x.need(0, 9), 9);
        Check.due("before", x.need(0, 0), 9);
        Check.due("before", x.need(9, 0), 9);
        Check.undoable(Check::busy, "need, the same", y -> Check.due("before", y.need(9, 9), 9));
        Check.undoable(Check::busy, "need", y -> Check.due("before", y.need(9, 8), 9));
    }

    /** "lodger: 0 to 9", "need: 0 to 9", and the exception that is named first. */
    private static void needArguments() {
        int[] none = {-1, 10, Integer.MIN_VALUE, Integer.MAX_VALUE};
        for (int number : none) {
            Check.throwsOnly(Check::busy, "need(9, " + number + ")", IllegalArgumentException.class,
                    x -> x.need(9, number));
            Check.throwsOnly(Check::busy, "need(" + number + ", 9)", IndexOutOfBoundsException.class,
                    x -> x.need(number, 9));
            Check.throwsOnly(Check::busy, "need of both", IndexOutOfBoundsException.class,
                    x -> x.need(number, number));
        }
    }

    /** "Returns the previous value"; "Undoable", also if nothing is changed. */
    private static void settingIsChanged() {
        SevenAsks x = new SevenAsks();
        Check.due("before", x.set(0), 3);
        Check.due("before", x.set(9), 0);
        Check.due("before", x.set(9), 9);
        Check.due("the setting", x.count(9), 9);
        Check.undoable(Check::busy, "set, the same", y -> Check.due("before", y.set(2), 2));
        Check.undoable(Check::busy, "set", y -> Check.due("before", y.set(9), 2));
    }

    /** "value: 0 to 9". */
    private static void settingArguments() {
        int[] none = {-1, 10, Integer.MIN_VALUE, Integer.MAX_VALUE};
        for (int value : none) {
            Check.throwsOnly(Check::busy, "set(" + value + ")", IllegalArgumentException.class, x -> x.set(value));
        }
    }
}
