import java.util.function.Consumer;
import java.util.function.Supplier;

/** What the tests have in common: answers that are due, and exceptions that are due. */
final class Check {
    private static int asked = 0;
    private static int wrong = 0;

    private Check() {
    }

    static void due(String call, long got, long want) {
        asked++;
        if (got != want) {
            wrong(call + " answered " + got + ", due is " + want);
        }
    }

    static void due(String call, double got, double want) {
        asked++;
        if (got != want) {
            wrong(call + " answered " + got + ", due is " + want);
        }
    }

    static void holds(String what, boolean so) {
        asked++;
        if (!so) {
            wrong(what);
        }
    }

    /** The call must throw exactly this class, and change nothing that the digest tells. */
    static void thrown(SevenAsks x, String call, Class<?> want, Runnable body) {
        asked++;
        long before = x.digest();
        String got = outcome(body);
        if (!got.equals("throws." + want.getSimpleName())) {
            wrong(call + " " + got + ", due is throws." + want.getSimpleName());
        }
        if (x.digest() != before) {
            wrong(call + " changed the state, though it threw");
        }
    }

    /** The calls must change nothing that the digest tells. */
    static void unchanged(SevenAsks x, String call, Runnable body) {
        asked++;
        long before = x.digest();
        body.run();
        if (x.digest() != before) {
            wrong(call + " changed the state");
        }
    }

    /**
     * The call must throw exactly this class, and change nothing at all: an object with the call
     * and one without it answer the same throughout, down to the saved states and the slots.
     */
    static void throwsOnly(Supplier<SevenAsks> maker, String call, Class<?> want, Consumer<SevenAsks> body) {
        SevenAsks with = maker.get();
        String got = outcome(() -> body.accept(with));
        String due = "throws." + want.getSimpleName();
        holds(call + " " + got + ", due is " + due, got.equals(due));
        sameThroughout(call, with, maker.get());
    }

    /** The call must throw nothing and change nothing at all. */
    static void changesNothing(Supplier<SevenAsks> maker, String call, Consumer<SevenAsks> body) {
        SevenAsks with = maker.get();
        String got = outcome(() -> body.accept(with));
        holds(call + " " + got, got.equals("threw nothing"));
        sameThroughout(call, with, maker.get());
    }

    /** The call must save one state, which undo() brings back; the buffer is cleared by run() alone. */
    static void undoable(Supplier<SevenAsks> maker, String call, Consumer<SevenAsks> body) {
        SevenAsks with = maker.get();
        SevenAsks without = maker.get();
        int states = with.count(11);
        body.accept(with);
        due("saved states behind " + call, with.count(11), Math.min(6, states + 1));
        due("states left behind the undo of " + call, with.undo(), Math.min(5, states));
        if (states == 6) {
            without.need(0, 0);
            without.undo();
        }
        with.clearBuffer();
        without.clearBuffer();
        sameThroughout("undo of " + call, with, without);
    }

    /** What later calls tell of two objects; both are used up by it. */
    static void sameThroughout(String what, SevenAsks one, SevenAsks other) {
        due(what + ": the digest", one.digest(), other.digest());
        due(what + ": the first error", one.firstError(), other.firstError());
        for (int left = other.count(11); left > 0; left--) {
            due(what + ": states left", one.undo(), left - 1);
            other.undo();
            due(what + ": saved state " + left, one.digest(), other.digest());
        }
        for (int slot = 0; slot <= 1; slot++) {
            int back = slot;
            String got = outcome(() -> one.goBack(back));
            holds(what + ": slot " + slot, got.equals(outcome(() -> other.goBack(back))));
            due(what + ": the snapshot in " + slot, one.digest(), other.digest());
        }
    }

    private static String outcome(Runnable body) {
        try {
            body.run();
            return "threw nothing";
        } catch (RuntimeException e) {
            return "throws." + e.getClass().getSimpleName();
        }
    }

    private static void wrong(String message) {
        wrong++;
        if (wrong <= 40) {
            System.out.println(message);
        }
    }

    /** Ends a test's main method. */
    static void end() {
        System.out.println(wrong + " of " + asked + " are not as due");
        if (wrong != 0 || asked == 0) {
            System.exit(1);
        }
    }

    // ---- ways to bring an object to a state

    static void append(SevenAsks x, String text) {
        for (int i = 0; i < text.length(); i++) {
            x.append(text.charAt(i));
        }
    }

    static int run(SevenAsks x, String text) {
        x.clearBuffer();
        append(x, text);
        return x.run();
    }

    /**
     * An object with nothing at rest: both slots are filled, six states are saved, two hours went
     * by, lodger 0 has 7 refusals, lodger 9 three favours, and the buffer tells an asking.
     */
    static SevenAsks busy() {
        SevenAsks x = new SevenAsks();
        x.keep(1);
        x.ask(3, 1, 4);
        x.ask(4, 2, 5);
        refuse(x, 0, 7);
        x.keep(0);
        x.pass();
        x.favour(9);
        x.favour(9);
        x.favour(9);
        x.pass();
        x.set(2);
        append(x, "7@c3");
        return x;
    }

    /** The lodger has the bed in these hours, and all others are free; not for the lodgers 3 to 5. */
    static SevenAsks alone(int lodger, int bed, int first, int hours) {
        SevenAsks x = new SevenAsks();
        for (int lower = 0; lower < bed; lower++) {
            x.ask(3 + lower, first, hours);
        }
        due("bed " + bed, x.ask(lodger, first, hours), 10 + bed);
        for (int lower = 0; lower < bed; lower++) {
            x.giveBack(3 + lower, first);
        }
        due("lent hours", x.count(2), hours);
        return x;
    }

    static void pass(SevenAsks x, int hours) {
        for (int i = 0; i < hours; i++) {
            x.pass();
        }
    }

    /** Refuses the lodger for too little need, as often as told; the setting is 3 again then. */
    static void refuse(SevenAsks x, int lodger, int times) {
        int need = x.lodgerOf(lodger, 0);
        x.need(lodger, 0);
        for (int i = 0; i < times; i++) {
            due("a refusal of lodger " + lodger, x.ask(lodger, 11, 1), 3);
        }
        x.need(lodger, need);
    }

    /** The bed's holders of all hours, a free hour as a dot. */
    static String bed(SevenAsks x, int bed) {
        StringBuilder line = new StringBuilder();
        for (int hour = 0; hour < 12; hour++) {
            int lodger = x.at(bed, hour);
            line.append(lodger == SevenAsks.NONE ? '.' : (char) ('0' + lodger));
        }
        return line.toString();
    }

    static void bedDue(SevenAsks x, int bed, String want) {
        String got = bed(x, bed);
        holds("bed " + bed + " is " + got + ", due is " + want, got.equals(want));
    }
}
