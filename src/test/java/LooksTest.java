/** Promises 15 to 18: at, lodgerOf, count, refused. */
public final class LooksTest {
    public static void main(String[] args) {
        at();
        lodgerOf();
        count();
        refused();
        Check.end();
    }

    /** Lodger 8 sleeps three hours in two nights, and 0 puts 4 out of bed 0 in the second one. */
    private static SevenAsks twoNights() {
        SevenAsks x = new SevenAsks();
        x.ask(8, 0, 2);
        x.favour(0);
        x.favour(0);
        x.ask(0, 1, 2);
        Check.pass(x, 12);
        x.ask(8, 0, 1);
        x.ask(4, 1, 3);
        x.ask(5, 1, 3);
        x.ask(6, 1, 3);
        x.ask(7, 1, 3);
        Check.due("no bed", x.ask(9, 2, 1), 4);
        x.need(0, 0);
        x.favour(0);
        x.ask(0, 8, 1);
        x.ask(0, 10, 1);
        Check.refuse(x, 0, 7);
        Check.due("the eighth asking", x.ask(0, 2, 1), 10);
        x.pass();
        x.ask(9, 0, 1);
        x.ask(8, 0, 1);
        x.ask(5, 2, 1);
        x.giveBack(5, 0);
        return x;
    }

    private static void at() {
        SevenAsks x = twoNights();
        Check.bedDue(x, 0, "8.0.....0.0.");
        Check.bedDue(x, 1, ".555........");
        Check.bedDue(x, 3, ".777........");
        Check.unchanged(x, "at", () -> x.at(0, 0));
        Check.thrown(x, "at(-1, 0)", IndexOutOfBoundsException.class, () -> x.at(-1, 0));
        Check.thrown(x, "at(4, 12)", IndexOutOfBoundsException.class, () -> x.at(4, 12));
        Check.thrown(x, "at(0, -1)", IllegalArgumentException.class, () -> x.at(0, -1));
        Check.thrown(x, "at(3, 12)", IllegalArgumentException.class, () -> x.at(3, 12));
    }

    private static void lodgerDue(SevenAsks x, int lodger, int... want) {
        for (int what = 0; what < want.length; what++) {
            Check.due("lodgerOf(" + lodger + ", " + what + ")", x.lodgerOf(lodger, what), want[what]);
        }
    }

    private static void lodgerOf() {
        SevenAsks x = twoNights();
        lodgerDue(x, 0, 0, 0, 0, 3, 2, 0, 1);
        lodgerDue(x, 4, 4, 1, 0, 0, 0, 1, 0);
        lodgerDue(x, 5, 5, 0, 0, 3, 0, 0, 0);
        lodgerDue(x, 8, 8, 0, 0, 1, 3, 0, 0);
        lodgerDue(x, 9, 9, 1, 0, 0, 0, 0, 0);
        Check.unchanged(x, "lodgerOf", () -> x.lodgerOf(0, 3));
        Check.thrown(x, "lodgerOf(-1, 0)", IndexOutOfBoundsException.class, () -> x.lodgerOf(-1, 0));
        Check.thrown(x, "lodgerOf(10, 7)", IndexOutOfBoundsException.class, () -> x.lodgerOf(10, 7));
        Check.thrown(x, "lodgerOf(0, -1)", IllegalArgumentException.class, () -> x.lodgerOf(0, -1));
        Check.thrown(x, "lodgerOf(0, 7)", IllegalArgumentException.class, () -> x.lodgerOf(0, 7));
    }

    private static void count() {
        SevenAsks x = twoNights();
        int[] want = {1, 1, 13, 5, 10, 11, 1, 3, 3, 3, 1, 6};
        for (int what = 0; what < want.length; what++) {
            Check.due("count(" + what + ")", x.count(what), want[what]);
        }
        Check.unchanged(x, "count", () -> x.count(2));
        Check.thrown(x, "count(-1)", IllegalArgumentException.class, () -> x.count(-1));
        Check.thrown(x, "count(12)", IllegalArgumentException.class, () -> x.count(12));
    }

    private static void refused() {
        SevenAsks x = twoNights();
        int[] want = {2, 1, 7, 1};
        for (int reason = 1; reason <= 4; reason++) {
            Check.due("refused(" + reason + ")", x.refused(reason), want[reason - 1]);
        }
        Check.unchanged(x, "refused", () -> x.refused(1));
        Check.thrown(x, "refused(0)", IllegalArgumentException.class, () -> x.refused(0));
        Check.thrown(x, "refused(5)", IllegalArgumentException.class, () -> x.refused(5));
    }
}
