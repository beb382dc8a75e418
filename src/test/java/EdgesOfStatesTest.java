import java.util.List;
import java.util.function.Consumer;

/**
 * A test for each sentence on snapshots, undo and exceptions (the terms, and the promises 1 and 12
 * to 14) that names a boundary case.
 */
public final class EdgesOfStatesTest {
    public static void main(String[] args) {
        newObject();
        twoSlots();
        snapshotIsAllButTheBufferTheSlotsAndTheSavedStates();
        keepInPlaceOfTheOneInTheSlot();
        keepReturnsTheHoursLent();
        goBackToASnapshotWhichStays();
        goBackReturnsTheHoursLentThen();
        goBackWithoutASnapshot();
        eachUndoableCallSavesAState();
        otherCallsSaveNone();
        thrownCallsSaveNone();
        stateIsAllButTheBufferAndTheSlots();
        atMostSixStates();
        oldestIsDroppedFirst();
        undoDropsTheLatest();
        undoWithoutAState();
        thrownCallsChangeNothing();
        firstNamedExceptionIsThrown();
        Check.end();
    }

    // ---- promise 1

    /** "an almshouse with free beds in the first night, with empty slots and an empty buffer". */
    private static void newObject() {
        SevenAsks x = new SevenAsks();
        for (int bed = 0; bed < 4; bed++) {
            Check.bedDue(x, bed, "............");
        }
        Check.due("the first night", x.count(1), 0);
        Check.due("no hour went by", x.count(0), 0);
        Check.due("an empty buffer", x.clearBuffer(), 0);
        Check.due("no saved state", x.count(11), 0);
        Check.throwsOnly(SevenAsks::new, "goBack(0)", IllegalStateException.class, y -> y.goBack(0));
        Check.throwsOnly(SevenAsks::new, "goBack(1)", IllegalStateException.class, y -> y.goBack(1));
        Check.throwsOnly(SevenAsks::new, "undo()", IllegalStateException.class, y -> y.undo());
        Check.throwsOnly(SevenAsks::new, "run()", IllegalArgumentException.class, y -> y.run());
    }

    // ---- promises 12 and 13

    /** "There are two slots": 0 and 1, apart from one another. */
    private static void twoSlots() {
        SevenAsks x = new SevenAsks();
        x.ask(9, 0, 1);
        Check.due("slot 0", x.keep(0), 1);
        x.ask(8, 0, 2);
        Check.due("slot 1", x.keep(1), 3);
        Check.due("slot 0", x.goBack(0), 1);
        Check.due("slot 1", x.goBack(1), 3);
        int[] none = {-1, 2, 3, Integer.MIN_VALUE, Integer.MAX_VALUE};
        for (int slot : none) {
            Check.throwsOnly(Check::busy, "keep(" + slot + ")", IllegalArgumentException.class, y -> y.keep(slot));
            Check.throwsOnly(Check::busy, "goBack(" + slot + ")", IllegalArgumentException.class, y -> y.goBack(slot));
        }
    }

    /** "a snapshot is all but the buffer, the slots and the saved states". */
    private static void snapshotIsAllButTheBufferTheSlotsAndTheSavedStates() {
        SevenAsks x = new SevenAsks();
        x.keep(0);
        x.ask(9, 0, 2);
        x.keep(1);
        Check.append(x, "9@k");
        x.keep(0);
        x.clearBuffer();
        Check.append(x, "8");
        x.goBack(0);
        Check.due("the buffer stays", x.clearBuffer(), 1);
        Check.due("the saved states stay, and one more", x.count(11), 2);
        Check.due("the saved state", x.undo(), 1);
        Check.due("the one before", x.undo(), 0);
        Check.due("of the new object", x.at(0, 0), -1);
        Check.due("the other slot stays", x.goBack(1), 2);
        SevenAsks y = Check.busy();
        y.keep(0);
        for (Consumer<SevenAsks> change : undoableCalls()) {
            change.accept(y);
        }
        y.goBack(0);
        SevenAsks z = Check.busy();
        for (int i = 0; i < 6; i++) {
            y.set(2);
            z.set(2);
        }
        y.clearBuffer();
        z.clearBuffer();
        Check.due("all else is as it was", y.digest(), z.digest());
    }

    /** "Takes a snapshot, in place of the one in the slot." */
    private static void keepInPlaceOfTheOneInTheSlot() {
        SevenAsks x = new SevenAsks();
        for (int hour = 0; hour < 12; hour++) {
            x.ask(9, hour, 1);
            Check.due("lent", x.keep(hour % 2), hour + 1);
        }
        x.giveBack(9, 0);
        Check.due("the last one in slot 0", x.goBack(0), 11);
        Check.due("the last one in slot 1", x.goBack(1), 12);
    }

    /** "Returns how many hours are lent in this night": none, all, and in the next night. */
    private static void keepReturnsTheHoursLent() {
        SevenAsks x = new SevenAsks();
        Check.due("none", x.keep(0), 0);
        for (int lodger = 3; lodger <= 6; lodger++) {
            x.ask(lodger, 0, 6);
            x.ask(lodger, 6, 6);
        }
        Check.due("all", x.keep(0), 48);
        Check.pass(x, 11);
        Check.due("what went by, too", x.keep(1), 48);
        x.pass();
        Check.due("none in the next night", x.keep(1), 0);
    }

    /** "Goes back to a snapshot, which stays. Undoable." */
    private static void goBackToASnapshotWhichStays() {
        SevenAsks x = new SevenAsks();
        x.keep(0);
        for (int times = 0; times < 4; times++) {
            x.ask(9, 0, 3);
            x.pass();
            Check.due("none is lent", x.goBack(0), 0);
            Check.due("no hour went by", x.count(0), 0);
        }
        Check.undoable(Check::busy, "goBack(0)", y -> y.goBack(0));
        Check.undoable(Check::busy, "goBack(1)", y -> y.goBack(1));
        Check.undoable(() -> keptAtOnce(), "goBack to the same", y -> y.goBack(1));
    }

    private static SevenAsks keptAtOnce() {
        SevenAsks x = new SevenAsks();
        x.keep(1);
        return x;
    }

    /** "Returns how many hours are lent in that night then": of the snapshot's night. */
    private static void goBackReturnsTheHoursLentThen() {
        SevenAsks x = new SevenAsks();
        x.keep(1);
        x.ask(9, 3, 9);
        Check.pass(x, 11);
        x.keep(0);
        x.pass();
        Check.due("the first night", x.goBack(0), 9);
        Check.due("its hours", x.count(0), 11);
        Check.due("no night ended", x.count(1), 0);
        Check.due("none", x.goBack(1), 0);
    }

    /** "IllegalStateException if there is no snapshot in it": the other slot is filled, or none. */
    private static void goBackWithoutASnapshot() {
        Check.throwsOnly(() -> keptAtOnce(), "goBack(0)", IllegalStateException.class, x -> x.goBack(0));
        Check.throwsOnly(SevenAsks::new, "goBack(1)", IllegalStateException.class, x -> x.goBack(1));
        SevenAsks x = new SevenAsks();
        x.set(1);
        x.keep(0);
        x.undo();
        Check.due("undo empties no slot", x.goBack(0), 0);
        Check.due("the setting", x.count(9), 1);
    }

    // ---- undo, and promise 14

    private static List<Consumer<SevenAsks>> undoableCalls() {
        return List.of(x -> x.ask(8, 8, 2), x -> x.giveBack(3, 2), x -> x.favour(1), x -> x.need(6, 1),
                x -> x.pass(), x -> x.set(7), x -> Check.run(x, "0@d9;h"));
    }

    /** "saves the state from before it (also if it changes nothing, or is refused)". */
    private static void eachUndoableCallSavesAState() {
        for (Consumer<SevenAsks> call : undoableCalls()) {
            Check.undoable(Check::busy, "an undoable call", call);
            Check.undoable(() -> withStates(5), "an undoable call", call);
        }
        Check.undoable(SevenAsks::new, "set to the same", x -> x.set(3));
        Check.undoable(SevenAsks::new, "need to the same", x -> x.need(5, 5));
        Check.undoable(SevenAsks::new, "a refused giveBack", x -> x.giveBack(5, 5));
        Check.undoable(SevenAsks::new, "a refused ask", x -> x.ask(0, 0, 1));
        Check.undoable(Check::busy, "a refused favour", x -> x.favour(9));
        Check.undoable(Check::busy, "a run of none", x -> Check.run(x, "9@l2"));
        Check.undoable(Check::busy, "goBack", x -> x.goBack(1));
    }

    private static SevenAsks withStates(int states) {
        SevenAsks x = new SevenAsks();
        for (int i = 0; i < states; i++) {
            x.set(9 - i);
        }
        return x;
    }

    /** Not marked "undoable": append, clearBuffer, firstError, keep, undo, and all that only tell. */
    private static void otherCallsSaveNone() {
        SevenAsks x = withStates(3);
        x.append('h');
        x.firstError();
        x.clearBuffer();
        x.keep(0);
        x.keep(1);
        x.at(0, 0);
        x.lodgerOf(0, 0);
        x.count(0);
        x.refused(1);
        x.ifAsked(9, 0, 1);
        x.ifPutOut(9, 0, 1);
        x.fewestBeds(0);
        x.longest(0, 0);
        x.poorest();
        x.fullness();
        x.digest();
        Check.due("saved states", x.count(11), 3);
        Check.due("undo", x.undo(), 2);
        Check.due("the setting before", x.count(9), 8);
    }

    /** "and does not throw an exception": then none is saved, not even in place of the oldest. */
    private static void thrownCallsSaveNone() {
        for (int states = 0; states <= 6; states++) {
            int many = states;
            Check.throwsOnly(() -> withStates(many), "ask", IllegalArgumentException.class, x -> x.ask(0, 12, 1));
            Check.throwsOnly(() -> withStates(many), "giveBack", IndexOutOfBoundsException.class, x -> x.giveBack(10, 1));
            Check.throwsOnly(() -> withStates(many), "run", IllegalArgumentException.class, x -> x.run());
            Check.throwsOnly(() -> withStates(many), "goBack", IllegalStateException.class, x -> x.goBack(0));
        }
    }

    /** "all, also what is counted so far, but the buffer, the slots and the saved states". */
    private static void stateIsAllButTheBufferAndTheSlots() {
        SevenAsks x = Check.busy();
        SevenAsks y = Check.busy();
        x.need(0, 0);
        y.need(0, 0);
        x.ask(0, 2, 9);
        x.append('!');
        x.undo();
        y.append('!');
        y.set(5);
        y.undo();
        Check.sameThroughout("undo of an asking", x, y);
        SevenAsks z = new SevenAsks();
        z.ask(9, 0, 4);
        z.ask(0, 0, 1);
        z.keep(0);
        Check.append(z, "9@a1");
        z.undo();
        z.undo();
        Check.due("askings done", z.count(4), 0);
        Check.due("askings refused", z.count(5), 0);
        Check.due("the buffer stays", z.clearBuffer(), 4);
        Check.due("the snapshot stays", z.goBack(0), 4);
        Check.due("askings refused", z.count(5), 1);
    }

    /** "At most 6 states are saved". */
    private static void atMostSixStates() {
        SevenAsks x = new SevenAsks();
        for (int call = 1; call <= 20; call++) {
            x.set(call % 10);
            Check.due("saved states behind " + call, x.count(11), Math.min(6, call));
        }
        for (int left = 5; left >= 0; left--) {
            Check.due("states left", x.undo(), left);
        }
        Check.due("saved states", x.count(11), 0);
    }

    /** "the oldest one is dropped first": with 5, 6, 7 and more calls, and again behind an undo. */
    private static void oldestIsDroppedFirst() {
        for (int calls = 1; calls <= 14; calls++) {
            SevenAsks x = new SevenAsks();
            for (int hour = 0; hour < calls; hour++) {
                x.pass();
            }
            int left = Math.min(6, calls);
            for (int undone = 1; undone <= left; undone++) {
                Check.due("states left", x.undo(), left - undone);
                Check.due("hours", x.count(1) * 12 + x.count(0), calls - undone);
            }
        }
        SevenAsks y = new SevenAsks();
        Check.pass(y, 8);
        y.undo();
        y.undo();
        Check.pass(y, 1);
        Check.due("saved states", y.count(11), 5);
        Check.pass(y, 2);
        Check.due("saved states", y.count(11), 6);
        for (int hour = 8; hour >= 3; hour--) {
            y.undo();
            Check.due("hours that went by", y.count(0), hour);
        }
        Check.due("saved states", y.count(11), 0);
    }

    /** "Restores the latest saved state, and drops it": it is not restored twice, and saves none. */
    private static void undoDropsTheLatest() {
        SevenAsks x = new SevenAsks();
        x.set(1);
        x.set(2);
        Check.due("states left", x.undo(), 1);
        Check.due("the setting", x.count(9), 1);
        Check.due("states left", x.undo(), 0);
        Check.due("the setting", x.count(9), 3);
        x.set(4);
        Check.due("one again", x.count(11), 1);
        Check.due("states left", x.undo(), 0);
        Check.due("the setting", x.count(9), 3);
    }

    /** "IllegalStateException if there is none": at first, and when all are dropped. */
    private static void undoWithoutAState() {
        Check.throwsOnly(SevenAsks::new, "undo()", IllegalStateException.class, x -> x.undo());
        Check.throwsOnly(() -> undoneBehind(1), "undo()", IllegalStateException.class, x -> x.undo());
        Check.throwsOnly(() -> undoneBehind(6), "undo()", IllegalStateException.class, x -> x.undo());
        Check.throwsOnly(() -> undoneBehind(7), "undo()", IllegalStateException.class, x -> x.undo());
        Check.throwsOnly(() -> keptAtOnce(), "undo()", IllegalStateException.class, x -> x.undo());
    }

    private static SevenAsks undoneBehind(int calls) {
        SevenAsks x = new SevenAsks();
        Check.pass(x, calls);
        for (int i = 0; i < Math.min(6, calls); i++) {
            x.undo();
        }
        return x;
    }

    // ---- exceptions

    /** "A call that throws an exception changes nothing (the buffer stays as it is, too)": each method that throws. */
    private static void thrownCallsChangeNothing() {
        Class<?> index = IndexOutOfBoundsException.class;
        Class<?> argument = IllegalArgumentException.class;
        Class<?> state = IllegalStateException.class;
        Check.throwsOnly(Check::busy, "ask", index, x -> x.ask(10, 2, 1));
        Check.throwsOnly(Check::busy, "ask", argument, x -> x.ask(0, 11, 2));
        Check.throwsOnly(Check::busy, "giveBack", index, x -> x.giveBack(10, 2));
        Check.throwsOnly(Check::busy, "giveBack", argument, x -> x.giveBack(3, 12));
        Check.throwsOnly(Check::busy, "favour", index, x -> x.favour(10));
        Check.throwsOnly(Check::busy, "need", index, x -> x.need(10, 0));
        Check.throwsOnly(Check::busy, "need", argument, x -> x.need(0, 10));
        Check.throwsOnly(Check::busy, "set", argument, x -> x.set(10));
        Check.throwsOnly(Check::busy, "append", argument, x -> x.append(127));
        Check.throwsOnly(() -> brokenText(), "run", argument, x -> x.run());
        Check.throwsOnly(Check::busy, "keep", argument, x -> x.keep(2));
        Check.throwsOnly(Check::busy, "goBack", argument, x -> x.goBack(2));
        Check.throwsOnly(() -> brokenText(), "goBack", state, x -> x.goBack(0));
        Check.throwsOnly(Check::busy, "at", index, x -> x.at(4, 0));
        Check.throwsOnly(Check::busy, "at", argument, x -> x.at(0, 12));
        Check.throwsOnly(Check::busy, "lodgerOf", index, x -> x.lodgerOf(10, 0));
        Check.throwsOnly(Check::busy, "lodgerOf", argument, x -> x.lodgerOf(0, 7));
        Check.throwsOnly(Check::busy, "count", argument, x -> x.count(12));
        Check.throwsOnly(Check::busy, "refused", argument, x -> x.refused(5));
        Check.throwsOnly(Check::busy, "ifAsked", index, x -> x.ifAsked(10, 0, 1));
        Check.throwsOnly(Check::busy, "ifAsked", argument, x -> x.ifAsked(0, 0, 10));
        Check.throwsOnly(Check::busy, "ifPutOut", index, x -> x.ifPutOut(10, 0, 1));
        Check.throwsOnly(Check::busy, "ifPutOut", argument, x -> x.ifPutOut(0, 0, 0));
        Check.throwsOnly(Check::busy, "fewestBeds", argument, x -> x.fewestBeds(2));
        Check.throwsOnly(Check::busy, "longest", index, x -> x.longest(10, 0));
        Check.throwsOnly(Check::busy, "longest", argument, x -> x.longest(0, 12));
    }

    /** Right askings first, and a syntax error behind them; slot 0 is empty. */
    private static SevenAsks brokenText() {
        SevenAsks x = new SevenAsks();
        x.keep(1);
        Check.pass(x, 7);
        Check.append(x, "9@k1;h;8@a1!");
        return x;
    }

    /** "If several exceptions apply, the one that is named first in the throws clause is thrown." */
    private static void firstNamedExceptionIsThrown() {
        Class<?> index = IndexOutOfBoundsException.class;
        Class<?> argument = IllegalArgumentException.class;
        Check.throwsOnly(Check::busy, "ask", index, x -> x.ask(-1, -1, 0));
        Check.throwsOnly(Check::busy, "giveBack", index, x -> x.giveBack(-1, -1));
        Check.throwsOnly(Check::busy, "need", index, x -> x.need(-1, -1));
        Check.throwsOnly(() -> fullBuffer(), "append", argument, x -> x.append(0));
        Check.throwsOnly(SevenAsks::new, "goBack", argument, x -> x.goBack(2));
        Check.throwsOnly(Check::busy, "at", index, x -> x.at(-1, -1));
        Check.throwsOnly(Check::busy, "lodgerOf", index, x -> x.lodgerOf(-1, -1));
        Check.throwsOnly(Check::busy, "ifAsked", index, x -> x.ifAsked(10, 12, 0));
        Check.throwsOnly(Check::busy, "ifPutOut", index, x -> x.ifPutOut(10, 12, 0));
        Check.throwsOnly(Check::busy, "longest", index, x -> x.longest(10, 12));
    }

    private static SevenAsks fullBuffer() {
        SevenAsks x = new SevenAsks();
        Check.append(x, "h".repeat(60));
        return x;
    }
}
