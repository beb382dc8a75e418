/** Promises 12 to 14: keep, goBack, undo. */
public final class SnapshotTest {
    public static void main(String[] args) {
        keep();
        goBack();
        snapshotsHoldAll();
        undoHoldsAll();
        sixStates();
        undoOfGoBack();
        throwsSaveNothing();
        Check.end();
    }

    private static void keep() {
        SevenAsks x = new SevenAsks();
        Check.due("lent hours", x.keep(0), 0);
        x.ask(9, 0, 5);
        Check.due("lent hours", x.keep(1), 5);
        Check.due("lent hours", x.keep(0), 5);
        Check.due("not undoable", x.count(11), 1);
        Check.thrown(x, "keep(-1)", IllegalArgumentException.class, () -> x.keep(-1));
        Check.thrown(x, "keep(2)", IllegalArgumentException.class, () -> x.keep(2));
    }

    private static void goBack() {
        SevenAsks x = new SevenAsks();
        x.ask(9, 0, 5);
        x.keep(0);
        x.ask(8, 3, 9);
        x.keep(1);
        Check.due("lent hours then", x.goBack(0), 5);
        Check.bedDue(x, 1, "............");
        Check.due("the snapshot stays", x.goBack(0), 5);
        Check.due("the other one", x.goBack(1), 14);
        Check.bedDue(x, 1, "...888888888");
        Check.due("undoable", x.count(11), 5);
        x.giveBack(8, 3);
        x.keep(0);
        Check.due("in place of the one before", x.goBack(0), 5);
        Check.due("given back", x.lodgerOf(8, 3), 0);
        SevenAsks y = new SevenAsks();
        y.keep(1);
        Check.thrown(y, "goBack(0)", IllegalStateException.class, () -> y.goBack(0));
        Check.thrown(y, "goBack(-1)", IllegalArgumentException.class, () -> y.goBack(-1));
        Check.thrown(y, "goBack(2)", IllegalArgumentException.class, () -> y.goBack(2));
        Check.due("the one that is kept", y.goBack(1), 0);
    }

    /** A state in which every number has changed; takes fewer than six states to go on from. */
    private static void changeAll(SevenAsks x) {
        x.favour(0);
        x.ask(0, 4, 1);
        x.need(3, 9);
        for (int lodger = 4; lodger <= 7; lodger++) {
            x.ask(lodger, 5, 3);
        }
        Check.refuse(x, 1, 7);
        x.ask(1, 5, 3);
        x.ask(8, 5, 3);
        x.ask(1, 5, 3);
        x.giveBack(9, 0);
        x.favour(2);
        Check.pass(x, 7);
        x.ask(9, 0, 1);
        x.set(6);
    }

    private static void snapshotsHoldAll() {
        SevenAsks x = new SevenAsks();
        x.keep(0);
        changeAll(x);
        x.keep(1);
        long all = digestWithSixStates(x);
        x.goBack(0);
        SevenAsks asNew = new SevenAsks();
        asNew.keep(0);
        asNew.keep(1);
        Check.due("as new", digestWithSixStates(x), digestWithSixStates(asNew));
        x.goBack(1);
        Check.due("as changed", digestWithSixStates(x), all);
    }

    /** Six undoable calls that change nothing, so that only the states themselves differ. */
    private static long digestWithSixStates(SevenAsks x) {
        for (int i = 0; i < 6; i++) {
            x.need(0, x.lodgerOf(0, 0));
        }
        return x.digest();
    }

    private static void undoHoldsAll() {
        SevenAsks x = new SevenAsks();
        long[] digests = new long[7];
        x.ask(9, 0, 2);
        x.undo();
        Runnable[] calls = {() -> x.ask(5, 0, 3), () -> x.ask(0, 0, 1), () -> x.pass(), () -> x.giveBack(5, 1),
            () -> x.favour(0), () -> x.ask(0, 2, 2)};
        for (int i = 0; i < calls.length; i++) {
            digests[i] = x.digest();
            calls[i].run();
        }
        for (int i = calls.length - 1; i >= 0; i--) {
            Check.due("states left", x.undo(), i);
            Check.due("the state before call " + i, x.digest(), digests[i]);
        }
        Check.thrown(x, "undo()", IllegalStateException.class, () -> x.undo());
    }

    private static void sixStates() {
        SevenAsks x = new SevenAsks();
        for (int i = 0; i < 15; i++) {
            x.set(i % 10);
            Check.due("saved states", x.count(11), Math.min(6, i + 1));
        }
        for (int left = 5; left >= 0; left--) {
            Check.due("states left", x.undo(), left);
            Check.due("the setting then", x.count(9), (8 + left) % 10);
        }
        Check.due("the oldest ones are dropped", x.count(9), 8);
        Check.thrown(x, "undo()", IllegalStateException.class, () -> x.undo());
        x.set(1);
        Check.due("one again", x.count(11), 1);
        x.undo();
        Check.due("the setting", x.count(9), 8);
    }

    private static void undoOfGoBack() {
        SevenAsks x = new SevenAsks();
        x.keep(0);
        x.ask(9, 0, 4);
        Check.append(x, "h");
        long before = x.digest();
        x.goBack(0);
        Check.due("free", x.at(0, 0), -1);
        Check.due("states left", x.undo(), 1);
        Check.due("lent again, and the buffer stays", x.digest(), before);
        x.keep(1);
        x.undo();
        Check.due("slots stay", x.goBack(1), 4);
    }

    private static void throwsSaveNothing() {
        SevenAsks x = new SevenAsks();
        Check.thrown(x, "ask(0, 12, 1)", IllegalArgumentException.class, () -> x.ask(0, 12, 1));
        Check.thrown(x, "set(10)", IllegalArgumentException.class, () -> x.set(10));
        Check.thrown(x, "run()", IllegalArgumentException.class, () -> x.run());
        Check.due("saved states", x.count(11), 0);
    }
}
