/** Promises 19 to 24: ifAsked, ifPutOut, fewestBeds, longest, poorest, fullness. */
public final class WouldBeTest {
    public static void main(String[] args) {
        ifAskedAndIfPutOut();
        fewestBeds();
        longest();
        poorest();
        fullness();
        Check.end();
    }

    private static void ifAskedAndIfPutOut() {
        SevenAsks x = new SevenAsks();
        x.ask(3, 2, 2);
        x.ask(4, 4, 2);
        x.ask(5, 0, 6);
        x.ask(6, 0, 6);
        x.ask(7, 0, 6);
        Check.due("the lowest free bed", x.ifAsked(9, 6, 2), 10);
        Check.due("a bed in the hour", x.ifAsked(3, 0, 3), 2);
        Check.due("too little need", x.ifAsked(0, 6, 2), 3);
        Check.due("no bed", x.ifAsked(9, 2, 4), 4);
        Check.due("none of the refused", x.ifPutOut(9, 2, 4), 0);
        Check.due("none for a free bed", x.ifPutOut(9, 6, 2), 0);
        Check.refuse(x, 9, 7);
        Check.due("the fewest hours", x.ifAsked(9, 1, 4), 10);
        Check.due("both of them", x.ifPutOut(9, 1, 4), 1 << 3 | 1 << 4);
        Check.due("one of them", x.ifPutOut(9, 5, 3), 1 << 4);
        Check.due("none in a free bed", x.ifPutOut(9, 0, 2), 0);
        Check.unchanged(x, "ifAsked", () -> x.ifAsked(9, 1, 4));
        Check.unchanged(x, "ifPutOut", () -> x.ifPutOut(9, 1, 4));
        x.pass();
        Check.due("an hour went by", x.ifAsked(9, 0, 2), 1);
        Check.due("none for what went by", x.ifPutOut(9, 0, 2), 0);
        x.favour(0);
        Check.due("with a favour", x.ifAsked(0, 6, 2), 10);
        Check.due("the favour stays", x.lodgerOf(0, 2), 1);
    }

    private static void fewestDue(SevenAsks x, int want) {
        Check.due("fewestBeds(0)", x.fewestBeds(0), want);
        Check.due("fewestBeds(1)", x.fewestBeds(1), want);
    }

    private static void fewestBeds() {
        SevenAsks x = new SevenAsks();
        fewestDue(x, 0);
        x.ask(9, 0, 1);
        fewestDue(x, 1);
        x.giveBack(9, 0);
        x.ask(9, 11, 1);
        fewestDue(x, 1);
        x.giveBack(9, 11);
        x.ask(3, 0, 4);
        fewestDue(x, 1);
        x.ask(4, 2, 4);
        x.ask(5, 3, 6);
        fewestDue(x, 3);
        x.giveBack(3, 2);
        fewestDue(x, 2);
        Check.pass(x, 6);
        fewestDue(x, 2);
        x.ask(6, 6, 6);
        x.ask(4, 6, 3);
        fewestDue(x, 3);
        Check.unchanged(x, "fewestBeds(0)", () -> x.fewestBeds(0));
        Check.unchanged(x, "fewestBeds(1)", () -> x.fewestBeds(1));
        Check.thrown(x, "fewestBeds(-1)", IllegalArgumentException.class, () -> x.fewestBeds(-1));
        Check.thrown(x, "fewestBeds(2)", IllegalArgumentException.class, () -> x.fewestBeds(2));
        Check.pass(x, 6);
        fewestDue(x, 0);
    }

    private static void longest() {
        SevenAsks x = new SevenAsks();
        Check.due("at most 9", x.longest(0, 0), 9);
        Check.due("up to the last hour", x.longest(0, 3), 9);
        Check.due("up to the last hour", x.longest(0, 4), 8);
        Check.due("one hour", x.longest(9, 11), 1);
        x.ask(3, 4, 2);
        x.ask(4, 5, 4);
        x.ask(5, 6, 4);
        x.ask(6, 7, 4);
        Check.due("bed 3 is free", x.longest(9, 0), 9);
        x.ask(7, 4, 2);
        x.ask(8, 3, 4);
        Check.bedDue(x, 0, "....335555..");
        Check.bedDue(x, 1, ".....4444...");
        Check.bedDue(x, 2, "....77.6666.");
        Check.bedDue(x, 3, "...8888.....");
        Check.due("bed 1 is the best", x.longest(9, 0), 5);
        Check.due("bed 3 is the best", x.longest(9, 7), 5);
        Check.due("bed 2 alone", x.longest(9, 6), 1);
        Check.due("one's own bed", x.longest(3, 0), 4);
        Check.due("one's own bed in the hour", x.longest(3, 5), 0);
        Check.due("whatever the need", x.longest(0, 0), 5);
        Check.refuse(x, 0, 7);
        Check.due("whatever the refusals", x.longest(0, 0), 5);
        Check.unchanged(x, "longest", () -> x.longest(0, 0));
        x.pass();
        Check.due("an hour that went by", x.longest(9, 0), 0);
        Check.due("the next hour", x.longest(9, 1), 4);
        allBedsLent(x);
        Check.thrown(x, "longest(-1, 0)", IndexOutOfBoundsException.class, () -> x.longest(-1, 0));
        Check.thrown(x, "longest(10, -1)", IndexOutOfBoundsException.class, () -> x.longest(10, -1));
        Check.thrown(x, "longest(0, -1)", IllegalArgumentException.class, () -> x.longest(0, -1));
        Check.thrown(x, "longest(0, 12)", IllegalArgumentException.class, () -> x.longest(0, 12));
    }

    private static void allBedsLent(SevenAsks x) {
        for (int lodger = 3; lodger <= 6; lodger++) {
            x.ask(lodger, 11, 1);
        }
        Check.due("no bed is free", x.longest(0, 11), 0);
    }

    private static void poorest() {
        SevenAsks x = new SevenAsks();
        Check.due("the greatest need", x.poorest(), 9);
        x.need(9, 4);
        x.need(6, 8);
        Check.due("the lowest of them", x.poorest(), 6);
        x.need(1, 9);
        Check.due("lodger 1", x.poorest(), 1);
        x.need(0, 9);
        Check.due("lodger 0", x.poorest(), 0);
        x.need(0, 0);
        x.need(1, 1);
        Check.refuse(x, 2, 1);
        Check.due("the most refusals", x.poorest(), 2);
        Check.refuse(x, 1, 1);
        Check.due("the greater need", x.poorest(), 2);
        Check.refuse(x, 0, 2);
        Check.due("more refusals", x.poorest(), 0);
        for (int lodger = 0; lodger < 10; lodger++) {
            x.need(lodger, 5);
        }
        x.undo();
        Check.unchanged(x, "poorest", () -> x.poorest());
    }

    private static void fullness() {
        SevenAsks x = new SevenAsks();
        Check.due("empty", x.fullness(), 0.0);
        x.ask(9, 0, 1);
        Check.due("one hour", x.fullness(), 1.0 / 48.0);
        x.ask(9, 1, 6);
        Check.due("seven hours", x.fullness(), 7 / 48.0);
        Check.pass(x, 3);
        Check.due("what went by, too", x.fullness(), 7 / 48.0);
        Check.unchanged(x, "fullness", () -> x.fullness());
        SevenAsks y = new SevenAsks();
        y.set(0);
        for (int lodger = 0; lodger < 4; lodger++) {
            y.ask(lodger, 0, 6);
            y.ask(lodger, 6, 6);
        }
        Check.due("full", y.fullness(), 1.0);
    }
}
