/** Promises 3 to 7: giveBack, favour, need, pass, set. */
public final class WardenTest {
    public static void main(String[] args) {
        giveBack();
        favour();
        need();
        pass();
        nightsEnd();
        set();
        Check.end();
    }

    private static void giveBack() {
        SevenAsks x = new SevenAsks();
        x.ask(5, 0, 4);
        x.ask(5, 4, 2);
        x.ask(6, 6, 2);
        x.ask(5, 8, 2);
        Check.due("from the middle to the end", x.giveBack(5, 2), 4);
        Check.bedDue(x, 0, "55....6655..");
        Check.due("no bed in that hour", x.giveBack(5, 3), -1);
        Check.due("another has it", x.giveBack(5, 6), -1);
        Check.due("refused", x.count(10), 2);
        Check.due("not an asking", x.count(5), 0);
        Check.due("no refusal", x.lodgerOf(5, 1), 0);
        x.pass();
        Check.due("it went by", x.giveBack(5, 0), -1);
        Check.due("the next hour", x.giveBack(5, 1), 1);
        Check.bedDue(x, 0, "5.....6655..");
        Check.due("refused", x.count(10), 3);
        Check.due("saved states", x.count(11), 6);
        otherBeds();
        Check.thrown(x, "giveBack(-1, 0)", IndexOutOfBoundsException.class, () -> x.giveBack(-1, 0));
        Check.thrown(x, "giveBack(10, 12)", IndexOutOfBoundsException.class, () -> x.giveBack(10, 12));
        Check.thrown(x, "giveBack(0, -1)", IllegalArgumentException.class, () -> x.giveBack(0, -1));
        Check.thrown(x, "giveBack(9, 12)", IllegalArgumentException.class, () -> x.giveBack(9, 12));
    }

    private static void otherBeds() {
        SevenAsks x = new SevenAsks();
        x.ask(4, 2, 3);
        x.ask(5, 0, 3);
        x.ask(5, 5, 7);
        x.ask(5, 3, 2);
        Check.bedDue(x, 0, "..4445555555");
        Check.bedDue(x, 1, "55555.......");
        Check.due("only this bed", x.giveBack(5, 4), 1);
        Check.due("the last hour", x.giveBack(5, 11), 1);
        Check.bedDue(x, 0, "..444555555.");
        Check.bedDue(x, 1, "5555........");
        x.undo();
        x.undo();
        Check.bedDue(x, 0, "..4445555555");
        Check.bedDue(x, 1, "55555.......");
    }

    private static void favour() {
        SevenAsks x = new SevenAsks();
        Check.due("one", x.favour(9), 1);
        Check.due("two", x.favour(9), 2);
        Check.due("three", x.favour(9), 3);
        Check.due("no more", x.favour(9), -1);
        Check.due("three", x.lodgerOf(9, 2), 3);
        Check.due("another", x.favour(0), 1);
        Check.due("refused", x.count(10), 1);
        Check.due("saved states", x.count(11), 5);
        x.undo();
        x.undo();
        Check.due("nothing was refused yet", x.count(10), 0);
        Check.thrown(x, "favour(-1)", IndexOutOfBoundsException.class, () -> x.favour(-1));
        Check.thrown(x, "favour(10)", IndexOutOfBoundsException.class, () -> x.favour(10));
    }

    private static void need() {
        SevenAsks x = new SevenAsks();
        Check.due("before", x.need(4, 9), 4);
        Check.due("before", x.need(4, 9), 9);
        Check.due("before", x.need(4, 0), 9);
        Check.due("the need", x.lodgerOf(4, 0), 0);
        Check.due("another's", x.lodgerOf(5, 0), 5);
        Check.due("too little", x.ask(4, 0, 1), 3);
        Check.due("saved states", x.count(11), 4);
        Check.thrown(x, "need(-1, 0)", IndexOutOfBoundsException.class, () -> x.need(-1, 0));
        Check.thrown(x, "need(10, 10)", IndexOutOfBoundsException.class, () -> x.need(10, 10));
        Check.thrown(x, "need(0, -1)", IllegalArgumentException.class, () -> x.need(0, -1));
        Check.thrown(x, "need(0, 10)", IllegalArgumentException.class, () -> x.need(0, 10));
    }

    private static void pass() {
        SevenAsks x = new SevenAsks();
        x.ask(3, 0, 2);
        x.ask(4, 1, 2);
        x.ask(5, 1, 1);
        Check.due("hour 0", x.pass(), 1);
        Check.due("hour 1", x.pass(), 3);
        Check.due("hour 2", x.pass(), 1);
        Check.due("hour 3", x.pass(), 0);
        Check.due("hours that went by", x.count(0), 4);
        Check.due("slept in all", x.count(3), 5);
        Check.due("slept by lodger 3", x.lodgerOf(3, 4), 2);
        Check.due("slept by lodger 4", x.lodgerOf(4, 4), 2);
        Check.due("slept by lodger 5", x.lodgerOf(5, 4), 1);
        Check.due("lent in this night", x.count(2), 5);
        x.undo();
        x.undo();
        Check.due("slept by lodger 4", x.lodgerOf(4, 4), 1);
        Check.due("hours that went by", x.count(0), 2);
    }

    private static void nightsEnd() {
        SevenAsks x = new SevenAsks();
        x.ask(9, 10, 2);
        Check.refuse(x, 0, 2);
        x.favour(1);
        Check.pass(x, 11);
        Check.due("hours that went by", x.count(0), 11);
        Check.due("nights that ended", x.count(1), 0);
        Check.due("lent", x.count(2), 2);
        Check.due("the last hour", x.pass(), 1);
        Check.due("hours that went by", x.count(0), 0);
        Check.due("nights that ended", x.count(1), 1);
        Check.due("lent", x.count(2), 0);
        Check.bedDue(x, 0, "............");
        Check.due("hours slept", x.lodgerOf(9, 4), 2);
        Check.due("refusals stay", x.lodgerOf(0, 1), 2);
        Check.due("favours stay", x.lodgerOf(1, 2), 1);
        x.undo();
        Check.bedDue(x, 0, "..........99");
        Check.due("hours that went by", x.count(0), 11);
    }

    private static void set() {
        SevenAsks x = new SevenAsks();
        Check.due("before", x.set(9), 3);
        Check.due("before", x.set(0), 9);
        Check.due("the setting", x.count(9), 0);
        Check.due("nobody has too little", x.ask(0, 0, 1), 10);
        Check.due("before", x.set(0), 0);
        Check.due("saved states", x.count(11), 4);
        Check.thrown(x, "set(-1)", IllegalArgumentException.class, () -> x.set(-1));
        Check.thrown(x, "set(10)", IllegalArgumentException.class, () -> x.set(10));
        x.set(9);
        Check.due("8 is too little", x.ask(8, 0, 1), 3);
        Check.due("9 is enough", x.ask(9, 0, 1), 11);
    }
}
