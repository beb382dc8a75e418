import java.util.function.Consumer;
import java.util.function.ObjIntConsumer;

/** A test for each sentence of the document's terms on lodgers, beds and settings that names a bound. */
public final class EdgesOfTermsTest {
    public static void main(String[] args) {
        usedFor512Calls();
        tenLodgersFromZero();
        needIsAtFirstTheNumber();
        needZeroToNine();
        refusalsZeroToSeven();
        favoursZeroToThree();
        fourBedsFromZero();
        twelveHoursFromZero();
        eachBedIsFreeOrLent();
        settingZeroToNineAtFirstThree();
        nothingToReturn();
        Check.end();
    }

    /** "An object is used for at most 512 calls after it has been made": the last one holds, too. */
    private static void usedFor512Calls() {
        SevenAsks x = new SevenAsks();
        for (int call = 1; call <= 510; call++) {
            Check.due("call " + call, x.pass(), 0);
        }
        Check.due("call 511, nights that ended", x.count(1), 42);
        Check.due("call 512, hours that went by", x.count(0), 6);
        SevenAsks y = new SevenAsks();
        for (int call = 1; call <= 511; call++) {
            Check.due("call " + call, y.ask(9, 0, 1), call == 1 ? 10 : 2);
        }
        Check.due("call 512, askings refused", y.count(5), 510);
    }

    private static void lodgersOf(String name, ObjIntConsumer<SevenAsks> call) {
        int[] none = {-1, 10, 11, Integer.MIN_VALUE, Integer.MAX_VALUE};
        for (int lodger : none) {
            Check.throwsOnly(Check::busy, name + " of lodger " + lodger, IndexOutOfBoundsException.class,
                    x -> call.accept(x, lodger));
        }
        for (int lodger = 0; lodger < 10; lodger++) {
            int there = lodger;
            Check.holds(name + " of lodger " + lodger, throwsNothing(x -> call.accept(x, there)));
        }
    }

    private static boolean throwsNothing(Consumer<SevenAsks> call) {
        try {
            call.accept(Check.busy());
            return true;
        } catch (RuntimeException e) {
            return false;
        }
    }

    /** "There are 10 lodgers, numbered from 0". */
    private static void tenLodgersFromZero() {
        lodgersOf("ask", (x, lodger) -> x.ask(lodger, 2, 1));
        lodgersOf("giveBack", (x, lodger) -> x.giveBack(lodger, 2));
        lodgersOf("favour", (x, lodger) -> x.favour(lodger));
        lodgersOf("need", (x, lodger) -> x.need(lodger, 2));
        lodgersOf("lodgerOf", (x, lodger) -> x.lodgerOf(lodger, 2));
        lodgersOf("ifAsked", (x, lodger) -> x.ifAsked(lodger, 2, 1));
        lodgersOf("ifPutOut", (x, lodger) -> x.ifPutOut(lodger, 2, 1));
        lodgersOf("longest", (x, lodger) -> x.longest(lodger, 2));
    }

    /** "each with a need, 0 to 9, at first the number of the lodger". */
    private static void needIsAtFirstTheNumber() {
        SevenAsks x = new SevenAsks();
        for (int lodger = 0; lodger < 10; lodger++) {
            Check.due("the need of lodger " + lodger, x.lodgerOf(lodger, 0), lodger);
        }
    }

    /** "each with a need, 0 to 9": all of them, and none beside them. */
    private static void needZeroToNine() {
        SevenAsks x = new SevenAsks();
        int before = 9;
        for (int need = 0; need <= 9; need++) {
            Check.due("the need before", x.need(9, need), before);
            Check.due("the need", x.lodgerOf(9, 0), need);
            before = need;
        }
        Check.due("lodger 8 keeps the own one", x.lodgerOf(8, 0), 8);
        int[] none = {-1, 10, 11, Integer.MIN_VALUE, Integer.MAX_VALUE};
        for (int need : none) {
            Check.throwsOnly(Check::busy, "need(9, " + need + ")", IllegalArgumentException.class,
                    y -> y.need(9, need));
            Check.throwsOnly(Check::busy, "need(0, " + need + ")", IllegalArgumentException.class,
                    y -> y.need(0, need));
        }
    }

    /** "refusals, 0 to 7, at first 0": they grow one by one to 7, and the next asking is not refused. */
    private static void refusalsZeroToSeven() {
        SevenAsks x = new SevenAsks();
        for (int lodger = 0; lodger < 10; lodger++) {
            Check.due("at first, lodger " + lodger, x.lodgerOf(lodger, 1), 0);
        }
        for (int times = 1; times <= 7; times++) {
            Check.due("refused", x.ask(2, 0, 1), 3);
            Check.due("refusals", x.lodgerOf(2, 1), times);
        }
        Check.due("not refused", x.ask(2, 0, 1), 10);
        Check.due("refusals", x.lodgerOf(2, 1), 0);
    }

    /** "and favours, 0 to 3, at first 0". */
    private static void favoursZeroToThree() {
        SevenAsks x = new SevenAsks();
        for (int lodger = 0; lodger < 10; lodger++) {
            Check.due("at first, lodger " + lodger, x.lodgerOf(lodger, 2), 0);
        }
        for (int favours = 1; favours <= 3; favours++) {
            Check.due("favours", x.favour(0), favours);
            Check.due("favours", x.lodgerOf(0, 2), favours);
        }
        Check.due("no fourth one", x.favour(0), -1);
        Check.due("favours", x.lodgerOf(0, 2), 3);
        for (int left = 2; left >= 0; left--) {
            Check.due("with a favour", x.ask(0, left, 1), 10);
            Check.due("favours", x.lodgerOf(0, 2), left);
        }
        Check.due("without one", x.ask(0, 4, 1), 3);
        Check.due("favours", x.lodgerOf(0, 2), 0);
    }

    /** "There are 4 beds, numbered from 0". */
    private static void fourBedsFromZero() {
        SevenAsks x = new SevenAsks();
        for (int bed = 0; bed < 4; bed++) {
            Check.due("bed " + bed + " is free", x.at(bed, 0), -1);
            Check.due("bed " + bed + " is got", x.ask(5 + bed, 0, 1), 10 + bed);
            Check.due("bed " + bed + " is lent", x.at(bed, 0), 5 + bed);
        }
        Check.due("no fifth bed", x.ask(9, 0, 1), 4);
        int[] none = {-1, 4, 5, Integer.MIN_VALUE, Integer.MAX_VALUE};
        for (int bed : none) {
            Check.throwsOnly(Check::busy, "at(" + bed + ", 0)", IndexOutOfBoundsException.class,
                    y -> y.at(bed, 0));
        }
    }

    private static void hoursOf(String name, ObjIntConsumer<SevenAsks> call) {
        int[] none = {-1, 12, 13, Integer.MIN_VALUE, Integer.MAX_VALUE};
        for (int hour : none) {
            Check.throwsOnly(Check::busy, name + " of hour " + hour, IllegalArgumentException.class,
                    x -> call.accept(x, hour));
        }
        for (int hour = 0; hour < 12; hour++) {
            int there = hour;
            Check.holds(name + " of hour " + hour, throwsNothing(x -> call.accept(x, there)));
        }
    }

    /** "and a night of 12 hours, numbered from 0". */
    private static void twelveHoursFromZero() {
        hoursOf("ask", (x, hour) -> x.ask(9, hour, 1));
        hoursOf("giveBack", (x, hour) -> x.giveBack(9, hour));
        hoursOf("at", (x, hour) -> x.at(3, hour));
        hoursOf("ifAsked", (x, hour) -> x.ifAsked(9, hour, 1));
        hoursOf("ifPutOut", (x, hour) -> x.ifPutOut(9, hour, 1));
        hoursOf("longest", (x, hour) -> x.longest(9, hour));
    }

    /** "Each bed is free in an hour, or lent to a lodger": to the lodgers 0 and 9, too. */
    private static void eachBedIsFreeOrLent() {
        SevenAsks x = new SevenAsks();
        x.set(0);
        for (int bed = 0; bed < 4; bed++) {
            Check.bedDue(x, bed, "............");
        }
        x.ask(0, 0, 1);
        x.ask(9, 11, 1);
        x.ask(4, 0, 1);
        Check.bedDue(x, 0, "0..........9");
        Check.bedDue(x, 1, "4...........");
        Check.bedDue(x, 2, "............");
        Check.bedDue(x, 3, "............");
    }

    /** "0: the least need, 0 to 9, at first 3": an asking at each setting by each need. */
    private static void settingZeroToNineAtFirstThree() {
        Check.due("at first", new SevenAsks().count(9), 3);
        for (int setting = 0; setting <= 9; setting++) {
            SevenAsks x = new SevenAsks();
            Check.due("the value before", x.set(setting), 3);
            Check.due("the setting", x.count(9), setting);
            for (int lodger = 0; lodger < 10; lodger++) {
                Check.due("setting " + setting + ", lodger " + lodger, x.ifAsked(lodger, 0, 1),
                        lodger < setting ? 3 : 10);
            }
            Check.due("the value before", x.set(3), setting);
        }
        int[] none = {-1, 10, 11, Integer.MIN_VALUE, Integer.MAX_VALUE};
        for (int value : none) {
            Check.throwsOnly(Check::busy, "set(" + value + ")", IllegalArgumentException.class, x -> x.set(value));
        }
    }

    /** "NONE = -1: There is nothing to return." */
    private static void nothingToReturn() {
        SevenAsks x = new SevenAsks();
        Check.due("NONE", SevenAsks.NONE, -1);
        Check.due("a free bed", x.at(0, 0), SevenAsks.NONE);
        Check.due("nothing to give back", x.giveBack(0, 0), SevenAsks.NONE);
        for (int i = 0; i < 3; i++) {
            x.favour(0);
        }
        Check.due("no favour", x.favour(0), SevenAsks.NONE);
    }
}
