import java.util.function.LongSupplier;

/** Long runs of calls, each answer held against the model's; the numbers come from a fixed row. */
public final class RandomRunsTest {
    private static final int RUNS = 1500;
    private static final int CALLS = 512;
    /** Six askings with ";" between them, and the three calls behind them. */
    private static final int LONGEST_TEXT = 29 + 3;

    private static long seed;
    private static int eighths;
    private static int putOut;
    private static int throwing;

    public static void main(String[] args) {
        for (int run = 0; run < RUNS; run++) {
            seed = 7919L * run + 1;
            oneRun(run);
        }
        System.out.println(eighths + " eighth askings, " + putOut + " put out, " + throwing + " thrown");
        Check.holds("eighth askings are seen", eighths > RUNS);
        Check.holds("lodgers are put out", putOut > RUNS);
        Check.holds("exceptions are seen", throwing > RUNS);
        Check.end();
    }

    private static int below(int bound) {
        seed = seed * 6364136223846793005L + 1442695040888963407L;
        return (int) ((seed >>> 33) % bound);
    }

    /** A number from 0 to below the bound, and now and then one that is out of range. */
    private static int near(int bound) {
        int[] odd = {-1, bound, bound + 1, Integer.MIN_VALUE, Integer.MAX_VALUE};
        return below(40) == 0 ? odd[below(odd.length)] : below(bound);
    }

    private static void oneRun(int run) {
        SevenAsks x = new SevenAsks();
        Model m = new Model();
        int style = run % 5;
        int setting = below(10);
        same(run, 1, "set", () -> x.set(setting), () -> m.set(setting));
        for (int call = 2; call <= CALLS; ) {
            if (call % 7 == 6) {
                same(run, call++, "digest", () -> x.digest(), () -> m.digest());
            } else if (below(style == 4 ? 12 : 60) == 0 && call <= CALLS - LONGEST_TEXT) {
                call = text(run, call, x, m);
            } else {
                oneCall(run, call++, x, m, style);
            }
        }
        for (int lodger = 0; lodger < 10; lodger++) {
            eighths += m.lodgerOf(lodger, 6);
        }
        putOut += m.count(6);
    }

    /** Writes a text into the buffer, mostly a right one, and mostly runs it. */
    private static int text(int run, int from, SevenAsks x, Model m) {
        StringBuilder line = new StringBuilder();
        int items = 1 + below(6);
        for (int i = 0; i < items; i++) {
            int first = below(12);
            int hours = 1 + below(below(8) == 0 ? 9 : Math.min(9, 12 - first));
            String item = below(6) == 0 ? "h" : "" + below(10) + "@" + (char) ('a' + first) + hours;
            line.append(i == 0 ? "" : ";").append(item);
        }
        if (below(5) == 0) {
            line.setCharAt(below(line.length()), (char) (33 + below(94)));
        }
        int call = from;
        for (int i = 0; i < line.length(); i++) {
            int code = line.charAt(i);
            same(run, call++, "append", () -> x.append(code), () -> m.append(code));
        }
        same(run, call++, "firstError", () -> x.firstError(), () -> m.firstError());
        same(run, call++, "run", () -> x.run(), () -> m.run());
        if (below(4) > 0) {
            same(run, call++, "clearBuffer", () -> x.clearBuffer(), () -> m.clearBuffer());
        }
        return call;
    }

    private static void oneCall(int run, int call, SevenAsks x, Model m, int style) {
        int lodger = near(10);
        int first = near(12);
        int hours = hoursFrom(first);
        int other = near(13);
        int pick = below(100);
        int asks = style == 0 ? 30 : 50 + 10 * style;
        if (pick < asks) {
            same(run, call, "ask", () -> x.ask(lodger, first, hours), () -> m.ask(lodger, first, hours));
        } else if (pick < asks + 4) {
            same(run, call, "giveBack", () -> x.giveBack(lodger, first), () -> m.giveBack(lodger, first));
        } else if (pick < asks + 7) {
            same(run, call, "favour", () -> x.favour(lodger), () -> m.favour(lodger));
        } else if (pick < asks + 9) {
            same(run, call, "need", () -> x.need(lodger, other), () -> m.need(lodger, other));
        } else if (pick < asks + 10) {
            same(run, call, "pass", () -> x.pass(), () -> m.pass());
        } else {
            rareCall(run, call, x, m, new int[] {lodger, first, hours, other});
        }
    }

    private static int hoursFrom(int first) {
        if (below(20) == 0 || first < 0 || first > 11) {
            return near(11);
        }
        int most = Math.min(9, 12 - first);
        return below(2) == 0 ? most : 1 + below(most);
    }

    private static void rareCall(int run, int call, SevenAsks x, Model m, int[] a) {
        switch (below(18)) {
            case 0 -> same(run, call, "set", () -> x.set(a[3]), () -> m.set(a[3]));
            case 1 -> slotCall(run, call, x, m);
            case 2, 3 -> same(run, call, "undo", () -> x.undo(), () -> m.undo());
            case 4 -> same(run, call, "at", () -> x.at(a[0] / 2, a[1]), () -> m.at(a[0] / 2, a[1]));
            case 5, 6 -> same(run, call, "lodgerOf", () -> x.lodgerOf(a[0], a[3] - 3), () -> m.lodgerOf(a[0], a[3] - 3));
            case 7, 8 -> same(run, call, "count", () -> x.count(a[3]), () -> m.count(a[3]));
            case 9 -> same(run, call, "refused", () -> x.refused(a[2]), () -> m.refused(a[2]));
            case 10 -> same(run, call, "ifAsked", () -> x.ifAsked(a[0], a[1], a[2]), () -> m.ifAsked(a[0], a[1], a[2]));
            case 11, 12 -> same(run, call, "ifPutOut", () -> x.ifPutOut(a[0], a[1], a[2]), () -> m.ifPutOut(a[0], a[1], a[2]));
            case 13 -> same(run, call, "fewestBeds", () -> x.fewestBeds(a[2] % 3), () -> m.fewestBeds(a[2] % 3));
            case 14 -> same(run, call, "longest", () -> x.longest(a[0], a[1]), () -> m.longest(a[0], a[1]));
            case 15 -> same(run, call, "poorest", () -> x.poorest(), () -> m.poorest());
            case 16 -> same(run, call, "fullness", () -> bits(x.fullness()), () -> bits(m.fullness()));
            default -> same(run, call, "append", () -> x.append(a[3] * 11), () -> m.append(a[3] * 11));
        }
    }

    private static void slotCall(int run, int call, SevenAsks x, Model m) {
        int slot = near(2);
        if (below(2) == 0) {
            same(run, call, "keep", () -> x.keep(slot), () -> m.keep(slot));
        } else {
            same(run, call, "goBack", () -> x.goBack(slot), () -> m.goBack(slot));
        }
    }

    private static long bits(double value) {
        return Double.doubleToRawLongBits(value);
    }

    private static void same(int run, int call, String name, LongSupplier got, LongSupplier want) {
        String answer = outcome(got);
        String due = outcome(want);
        throwing += due.startsWith("throws") ? 1 : 0;
        Check.holds("run " + run + ", call " + call + ": " + name + " answered " + answer + ", due is " + due,
                answer.equals(due));
    }

    private static String outcome(LongSupplier call) {
        try {
            return Long.toString(call.getAsLong());
        } catch (RuntimeException e) {
            return "throws." + e.getClass().getSimpleName();
        }
    }
}
