/** A test for each sentence of the promises 15 to 18 that names a boundary case. */
public final class EdgesOfLooksTest {
    public static void main(String[] args) {
        toWhomABedIsLent();
        noneIfItIsFree();
        atArguments();
        theNeedRefusalsAndFavours();
        hoursLentInThisNight();
        hoursSleptOfAllNights();
        howOftenPutOut();
        howOftenAnEighthAsking();
        lodgerOfArguments();
        hoursAndNights();
        lentAndSlept();
        askingsDoneAndRefused();
        lodgersPutOutAndHoursLost();
        favoursUsedUp();
        theSetting();
        whatElseWasRefused();
        savedStates();
        countArguments();
        howOftenForThisReason();
        refusedArguments();
        looksChangeNothing();
        Check.end();
    }

    // ---- promise 15

    /** "Tells to whom a bed is lent": in the first and the last bed and hour. */
    private static void toWhomABedIsLent() {
        SevenAsks x = new SevenAsks();
        x.set(0);
        for (int bed = 0; bed < 4; bed++) {
            x.ask(bed, 0, 1);
            x.ask(9 - bed, 11, 1);
        }
        for (int bed = 0; bed < 4; bed++) {
            Check.due("the first hour", x.at(bed, 0), bed);
            Check.due("the last hour", x.at(bed, 11), 9 - bed);
        }
        x.pass();
        Check.due("it went by, and is told still", x.at(3, 0), 3);
    }

    /** "NONE if it is free": beside what is lent, given back, and in the next night. */
    private static void noneIfItIsFree() {
        SevenAsks x = new SevenAsks();
        x.ask(9, 4, 3);
        for (int hour = 0; hour < 12; hour++) {
            Check.due("hour " + hour, x.at(0, hour), hour >= 4 && hour <= 6 ? 9 : SevenAsks.NONE);
            Check.due("bed 1", x.at(1, hour), SevenAsks.NONE);
        }
        x.giveBack(9, 5);
        Check.bedDue(x, 0, "....9.......");
        Check.pass(x, 12);
        Check.bedDue(x, 0, "............");
    }

    /** "bed: 0 to 3", "hour: 0 to 11". */
    private static void atArguments() {
        int[] none = {Integer.MIN_VALUE, -1, 4, 12, 13, 47, 48, Integer.MAX_VALUE};
        for (int number : none) {
            Check.throwsOnly(Check::busy, "at(" + number + ", 0)", IndexOutOfBoundsException.class, x -> x.at(number, 0));
            Check.throwsOnly(Check::busy, "at of both", IndexOutOfBoundsException.class, x -> x.at(number, 12));
            if (number != 4) {
                Check.throwsOnly(Check::busy, "at(0, " + number + ")", IllegalArgumentException.class, x -> x.at(0, number));
            }
        }
    }

    // ---- promise 16

    /** "0: the need; 1: refusals; 2: favours": of the lodger told. */
    private static void theNeedRefusalsAndFavours() {
        SevenAsks x = new SevenAsks();
        x.need(9, 0);
        Check.refuse(x, 8, 7);
        x.favour(7);
        for (int lodger = 0; lodger < 10; lodger++) {
            Check.due("the need", x.lodgerOf(lodger, 0), lodger == 9 ? 0 : lodger);
            Check.due("refusals", x.lodgerOf(lodger, 1), lodger == 8 ? 7 : 0);
            Check.due("favours", x.lodgerOf(lodger, 2), lodger == 7 ? 1 : 0);
        }
    }

    /** "3: hours lent to the lodger in this night": what went by, too; not those of the night before. */
    private static void hoursLentInThisNight() {
        SevenAsks x = new SevenAsks();
        Check.due("none", x.lodgerOf(9, 3), 0);
        x.ask(8, 3, 1);
        x.ask(9, 0, 9);
        x.ask(9, 9, 3);
        Check.bedDue(x, 0, "...8.....999");
        Check.due("all, in two beds", x.lodgerOf(9, 3), 12);
        Check.pass(x, 11);
        Check.due("what went by, too", x.lodgerOf(9, 3), 12);
        x.pass();
        Check.due("the next night", x.lodgerOf(9, 3), 0);
        for (int bed = 0; bed < 4; bed++) {
            Check.due("in bed " + bed, Check.alone(9, bed, 2, 5).lodgerOf(9, 3), 5);
        }
    }

    /** "4: hours slept so far, of all nights". */
    private static void hoursSleptOfAllNights() {
        SevenAsks x = new SevenAsks();
        for (int night = 1; night <= 3; night++) {
            x.ask(9, 0, 1);
            x.ask(9, 3, 9);
            Check.due("not slept yet", x.lodgerOf(9, 4), 10 * night - 10);
            Check.pass(x, 12);
            Check.due("slept", x.lodgerOf(9, 4), 10 * night);
        }
        Check.due("another", x.lodgerOf(8, 4), 0);
        for (int bed = 0; bed < 4; bed++) {
            SevenAsks y = Check.alone(9, bed, 0, 2);
            Check.pass(y, 3);
            Check.due("in bed " + bed, y.lodgerOf(9, 4), 2);
        }
    }

    /** The lodgers 4 to 7 have the beds 0 to 3 from hour 6 on, and lodger 0 has 7 refusals. */
    private static SevenAsks beforeAnEighthAsking() {
        SevenAsks x = new SevenAsks();
        for (int lodger = 4; lodger <= 7; lodger++) {
            x.ask(lodger, 6, 3);
        }
        Check.refuse(x, 0, 7);
        return x;
    }

    /** "5: how often the lodger was put out so far": never, once, twice, in another night. */
    private static void howOftenPutOut() {
        SevenAsks x = beforeAnEighthAsking();
        Check.due("never", x.lodgerOf(4, 5), 0);
        x.ask(0, 6, 1);
        Check.due("once", x.lodgerOf(4, 5), 1);
        Check.due("another", x.lodgerOf(5, 5), 0);
        Check.due("who asked", x.lodgerOf(0, 5), 0);
        Check.pass(x, 12);
        for (int lodger = 4; lodger <= 7; lodger++) {
            x.ask(lodger, 6, 3);
        }
        Check.refuse(x, 0, 7);
        x.ask(0, 8, 1);
        Check.due("twice", x.lodgerOf(4, 5), 2);
    }

    /** "6: how often an eighth asking was done so far, whether anybody was put out or not". */
    private static void howOftenAnEighthAsking() {
        SevenAsks x = beforeAnEighthAsking();
        Check.due("never", x.lodgerOf(0, 6), 0);
        x.ask(0, 6, 1);
        Check.due("somebody was put out", x.lodgerOf(0, 6), 1);
        x.ask(0, 1, 1);
        Check.due("a refused one is none", x.lodgerOf(0, 6), 1);
        Check.refuse(x, 0, 6);
        x.ask(0, 1, 1);
        Check.due("nobody was put out", x.lodgerOf(0, 6), 2);
        Check.refuse(x, 9, 7);
        x.ask(9, 1, 1);
        Check.due("the need would have been enough", x.lodgerOf(9, 6), 1);
        Check.due("askings done", x.count(4), 7);
        x.undo();
        Check.due("undone", x.lodgerOf(9, 6), 0);
    }

    /** "lodger: 0 to 9", and "if what is not 0 to 6". */
    private static void lodgerOfArguments() {
        int[] none = {Integer.MIN_VALUE, -1, 7, 8, 10, Integer.MAX_VALUE};
        for (int number : none) {
            Check.throwsOnly(Check::busy, "lodgerOf(9, " + number + ")", IllegalArgumentException.class,
                    x -> x.lodgerOf(9, number));
            Check.throwsOnly(Check::busy, "lodgerOf(10, " + number + ")", IndexOutOfBoundsException.class,
                    x -> x.lodgerOf(10, number));
            Check.throwsOnly(Check::busy, "lodgerOf(-1, " + number + ")", IndexOutOfBoundsException.class,
                    x -> x.lodgerOf(-1, number));
        }
    }

    // ---- promise 17

    /** "0: hours of this night that went by; 1: nights that ended": 0 to 11, and then a night. */
    private static void hoursAndNights() {
        SevenAsks x = new SevenAsks();
        for (int passed = 0; passed <= 36; passed++) {
            Check.due("hours that went by", x.count(0), passed % 12);
            Check.due("nights that ended", x.count(1), passed / 12);
            x.pass();
        }
    }

    /** "2: hours lent in this night; 3: hours slept so far": none, all 48, and the next night. */
    private static void lentAndSlept() {
        SevenAsks x = new SevenAsks();
        Check.due("none is lent", x.count(2), 0);
        for (int lodger = 3; lodger <= 6; lodger++) {
            x.ask(lodger, 0, 6);
            x.ask(lodger, 6, 6);
        }
        for (int hour = 0; hour < 12; hour++) {
            Check.due("all is lent", x.count(2), 48);
            Check.due("slept", x.count(3), 4 * hour);
            x.pass();
        }
        Check.due("none is lent", x.count(2), 0);
        Check.due("slept", x.count(3), 48);
        x.ask(9, 0, 1);
        x.pass();
        Check.due("of all nights", x.count(3), 49);
    }

    /** "4: askings done so far; 5: askings refused so far": by ask() and by run(), not what would be. */
    private static void askingsDoneAndRefused() {
        SevenAsks x = new SevenAsks();
        x.ask(9, 0, 1);
        x.ask(9, 0, 1);
        x.ifAsked(8, 0, 1);
        x.ifAsked(0, 0, 1);
        Check.due("done", x.count(4), 1);
        Check.due("refused", x.count(5), 1);
        Check.run(x, "8@a1;8@a1;h;8@a1;0@l1;8@l2");
        Check.due("done", x.count(4), 2);
        Check.due("refused", x.count(5), 4);
        Check.pass(x, 11);
        Check.due("of all nights", x.count(4) * 10 + x.count(5), 24);
        x.giveBack(9, 0);
        x.favour(0);
        Check.due("not what else is done or refused", x.count(4) * 10 + x.count(5), 24);
    }

    /** "6: lodgers put out so far; 7: hours lost by them so far": each time counts. */
    private static void lodgersPutOutAndHoursLost() {
        SevenAsks x = beforeAnEighthAsking();
        Check.due("none was put out", x.count(6), 0);
        x.ask(0, 6, 1);
        Check.due("put out", x.count(6), 1);
        Check.due("lost", x.count(7), 3);
        x.giveBack(0, 6);
        x.ask(4, 6, 3);
        x.giveBack(5, 7);
        Check.due("giving back is no loss", x.count(7), 3);
        Check.refuse(x, 0, 7);
        x.ask(0, 6, 3);
        Check.bedDue(x, 1, "......000...");
        Check.due("put out", x.count(6), 2);
        Check.due("lost", x.count(7), 4);
        Check.refuse(x, 1, 7);
        x.ask(1, 0, 1);
        Check.due("nobody is put out of a free bed", x.count(6), 2);
    }

    /** "8: favours used up so far": not those that are given, nor those that are left. */
    private static void favoursUsedUp() {
        SevenAsks x = new SevenAsks();
        x.favour(0);
        x.favour(1);
        x.favour(1);
        Check.due("none", x.count(8), 0);
        x.ask(0, 0, 1);
        x.ask(1, 0, 1);
        x.ask(1, 1, 1);
        Check.due("three", x.count(8), 3);
        x.ask(1, 2, 1);
        Check.due("a refused asking uses none", x.count(8), 3);
    }

    /** "9: the setting". */
    private static void theSetting() {
        SevenAsks x = new SevenAsks();
        Check.due("at first", x.count(9), 3);
        x.set(0);
        Check.due("the least", x.count(9), 0);
        x.set(9);
        Check.due("the greatest", x.count(9), 9);
    }

    /** "10: what else was refused so far (by giveBack() and favour())". */
    private static void whatElseWasRefused() {
        SevenAsks x = new SevenAsks();
        x.ask(0, 0, 1);
        Check.due("not the askings", x.count(10), 0);
        x.giveBack(0, 0);
        Check.due("by giveBack", x.count(10), 1);
        for (int call = 1; call <= 4; call++) {
            x.favour(0);
        }
        Check.due("by favour", x.count(10), 2);
        x.pass();
        x.giveBack(0, 0);
        Check.due("by giveBack", x.count(10), 3);
        x.undo();
        Check.due("undone", x.count(10), 2);
    }

    /** "11: saved states": 0 to 6. */
    private static void savedStates() {
        SevenAsks x = new SevenAsks();
        for (int call = 0; call <= 8; call++) {
            Check.due("saved states", x.count(11), Math.min(6, call));
            x.favour(0);
        }
        x.undo();
        Check.due("saved states", x.count(11), 5);
    }

    /** "if what is not 0 to 11". */
    private static void countArguments() {
        int[] none = {Integer.MIN_VALUE, -1, 12, 13, Integer.MAX_VALUE};
        for (int what : none) {
            Check.throwsOnly(Check::busy, "count(" + what + ")", IllegalArgumentException.class, x -> x.count(what));
        }
        Check.due("the first", Check.busy().count(0), 2);
        Check.due("the last", Check.busy().count(11), 6);
    }

    // ---- promise 18

    /** "Returns how often for this reason so far": each of them, and not the other ones. */
    private static void howOftenForThisReason() {
        SevenAsks x = new SevenAsks();
        for (int lodger = 5; lodger <= 8; lodger++) {
            x.ask(lodger, 1, 1);
        }
        x.pass();
        String[] text = {"9@a1", "5@b1", "0@c1", "9@b1"};
        int[] want = new int[4];
        for (int round = 0; round < 3; round++) {
            for (int reason = 1; reason <= 4; reason++) {
                Check.run(x, text[reason - 1]);
                want[reason - 1]++;
                for (int told = 1; told <= 4; told++) {
                    Check.due("refused(" + told + ")", x.refused(told), want[told - 1]);
                }
            }
        }
        Check.due("in all", x.count(5), 12);
        Check.pass(x, 11);
        Check.due("of all nights", x.refused(4), 3);
    }

    /** "reason: 1 to 4". */
    private static void refusedArguments() {
        int[] none = {Integer.MIN_VALUE, -1, 0, 5, 6, Integer.MAX_VALUE};
        for (int reason : none) {
            Check.throwsOnly(Check::busy, "refused(" + reason + ")", IllegalArgumentException.class,
                    x -> x.refused(reason));
        }
    }

    /** "looks; nothing is changed". */
    private static void looksChangeNothing() {
        Check.changesNothing(Check::busy, "at", x -> x.at(3, 11));
        Check.changesNothing(Check::busy, "lodgerOf", x -> x.lodgerOf(9, 6));
        Check.changesNothing(Check::busy, "count", x -> x.count(11));
        Check.changesNothing(Check::busy, "refused", x -> x.refused(4));
    }
}
