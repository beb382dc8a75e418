/** Promise 2. */
public final class AskTest {
    public static void main(String[] args) {
        lowestFreeBed();
        reasonsInTheirOrder();
        hoursThatWentBy();
        favours();
        refusalsAreCounted();
        eighthAskingWithAFreeBed();
        eighthAskingPutsOut();
        piecesThatArePutOut();
        neighboursStay();
        hoursThatWentByAreNotLost();
        mostRefusals();
        wrongInputs();
        Check.end();
    }

    private static void lowestFreeBed() {
        SevenAsks x = new SevenAsks();
        Check.due("bed 0", x.ask(3, 0, 9), 10);
        Check.due("bed 1", x.ask(4, 8, 1), 11);
        Check.due("behind it, bed 0", x.ask(5, 9, 3), 10);
        Check.due("bed 1 in front", x.ask(6, 0, 8), 11);
        Check.due("bed 2", x.ask(7, 7, 3), 12);
        Check.due("bed 1 behind", x.ask(8, 9, 3), 11);
        Check.bedDue(x, 0, "333333333555");
        Check.bedDue(x, 1, "666666664888");
        Check.bedDue(x, 2, ".......777..");
        Check.due("askings done", x.count(4), 6);
        Check.due("askings refused", x.count(5), 0);
        Check.due("saved states", x.count(11), 6);
    }

    private static void reasonsInTheirOrder() {
        SevenAsks x = new SevenAsks();
        x.set(0);
        x.ask(0, 1, 2);
        x.pass();
        x.set(3);
        Check.due("1 ahead of 2 and 3", x.ask(0, 0, 2), 1);
        Check.due("2 ahead of 3", x.ask(0, 2, 2), 2);
        Check.due("side by side is no 2", x.ask(0, 3, 1), 3);
        Check.due("need below", x.ask(2, 3, 1), 3);
        Check.due("need as great", x.ask(3, 3, 9), 10);
        x.ask(4, 3, 9);
        x.ask(5, 3, 9);
        x.ask(6, 3, 9);
        Check.due("3 ahead of 4", x.ask(2, 11, 1), 3);
        Check.due("4", x.ask(7, 11, 1), 4);
        Check.due("2 ahead of 4", x.ask(6, 11, 1), 2);
        Check.due("a bed in another hour", x.ask(6, 2, 1), 11);
        Check.due("refused for 1", x.refused(1), 1);
        Check.due("refused for 2", x.refused(2), 2);
        Check.due("refused for 3", x.refused(3), 3);
        Check.due("refused for 4", x.refused(4), 1);
        Check.due("refused in all", x.count(5), 7);
    }

    private static void hoursThatWentBy() {
        SevenAsks x = new SevenAsks();
        Check.pass(x, 3);
        Check.due("the past hour", x.ask(9, 2, 1), 1);
        Check.due("an hour of it is past", x.ask(9, 2, 9), 1);
        Check.due("the next hour", x.ask(9, 3, 9), 10);
        Check.due("refusals", x.lodgerOf(9, 1), 0);
    }

    private static void favours() {
        SevenAsks x = new SevenAsks();
        x.favour(0);
        x.favour(0);
        x.favour(9);
        Check.due("with a favour", x.ask(0, 0, 9), 10);
        Check.due("favours", x.lodgerOf(0, 2), 1);
        Check.due("used up", x.count(8), 1);
        Check.due("with need", x.ask(9, 0, 9), 11);
        Check.due("favour is kept", x.lodgerOf(9, 2), 1);
        Check.due("reason 2", x.ask(0, 0, 1), 2);
        x.ask(8, 0, 9);
        x.ask(7, 0, 9);
        x.favour(1);
        Check.due("no bed", x.ask(1, 0, 1), 4);
        Check.due("favour is kept without a bed", x.lodgerOf(1, 2), 1);
        Check.due("used up", x.count(8), 1);
        Check.due("the last favour", x.ask(0, 9, 1), 10);
        Check.due("no favour left", x.ask(0, 10, 1), 3);
        Check.due("used up", x.count(8), 2);
    }

    private static void refusalsAreCounted() {
        SevenAsks x = new SevenAsks();
        Check.refuse(x, 5, 6);
        Check.due("refusals", x.lodgerOf(5, 1), 6);
        Check.due("not yet an eighth", x.ask(5, 0, 2), 10);
        Check.due("refusals are 0 then", x.lodgerOf(5, 1), 0);
        Check.due("no eighth asking", x.lodgerOf(5, 6), 0);
        Check.refuse(x, 5, 2);
        Check.due("reason 2 counts none", x.ask(5, 1, 2), 2);
        x.pass();
        Check.due("reason 1 counts none", x.ask(5, 0, 1), 1);
        Check.due("refusals", x.lodgerOf(5, 1), 2);
    }

    private static void eighthAskingWithAFreeBed() {
        SevenAsks x = new SevenAsks();
        x.favour(0);
        x.ask(9, 0, 2);
        x.ask(0, 5, 1);
        Check.refuse(x, 0, 7);
        x.favour(0);
        Check.due("an eighth one in the lowest free bed", x.ask(0, 1, 2), 11);
        Check.due("favours stay", x.lodgerOf(0, 2), 1);
        Check.due("used up", x.count(8), 1);
        Check.due("refusals", x.lodgerOf(0, 1), 0);
        Check.due("eighth askings", x.lodgerOf(0, 6), 1);
        Check.due("put out", x.count(6), 0);
        Check.due("lost", x.count(7), 0);
        Check.bedDue(x, 0, "99...0......");
        Check.bedDue(x, 1, ".00.........");
    }

    /** All beds are lent in hour 4; the refused lodger 1 has 7 refusals. */
    private static SevenAsks fullInHourFour() {
        SevenAsks x = new SevenAsks();
        x.ask(3, 2, 4);
        x.ask(4, 1, 4);
        x.ask(5, 4, 4);
        x.ask(6, 4, 1);
        Check.refuse(x, 1, 7);
        return x;
    }

    private static void eighthAskingPutsOut() {
        SevenAsks x = fullInHourFour();
        Check.due("as many hours, the lowest bed", x.ask(1, 4, 1), 10);
        Check.bedDue(x, 0, "....1.......");
        Check.due("put out", x.count(6), 1);
        Check.due("hours lost", x.count(7), 4);
        Check.due("refusals of lodger 3", x.lodgerOf(3, 1), 1);
        Check.due("how often lodger 3 was put out", x.lodgerOf(3, 5), 1);
        Check.due("hours lent to lodger 3", x.lodgerOf(3, 3), 0);
        Check.due("refusals of lodger 1", x.lodgerOf(1, 1), 0);
        Check.due("eighth askings of lodger 1", x.lodgerOf(1, 6), 1);
        Check.due("askings done", x.count(4), 5);

        SevenAsks y = fullInHourFour();
        Check.due("the fewest hours are in bed 1", y.ask(1, 4, 3), 11);
        Check.bedDue(y, 1, "....111.....");
        Check.due("refusals of lodger 4", y.lodgerOf(4, 1), 1);

        SevenAsks z = fullInHourFour();
        Check.due("reasons 1 and 2 stay", z.ask(1, 4, 1), 10);
        Check.refuse(z, 1, 7);
        Check.due("reason 2", z.ask(1, 3, 3), 2);
        z.pass();
        Check.due("reason 1", z.ask(1, 0, 1), 1);
        Check.due("refusals stay", z.lodgerOf(1, 1), 7);
    }

    private static void piecesThatArePutOut() {
        SevenAsks x = new SevenAsks();
        x.set(0);
        Check.run(x, "0@a1;2@b3;2@e1;3@f2;2@h2;4@j1;2@k2");
        Check.bedDue(x, 0, "022223322422");
        for (int lodger = 7; lodger <= 9; lodger++) {
            x.ask(lodger, 0, 9);
        }
        x.set(3);
        Check.refuse(x, 1, 7);
        Check.due("the mask", x.ifPutOut(1, 3, 5), 1 << 2 | 1 << 3);
        Check.due("the lowest bed", x.ask(1, 3, 5), 10);
        Check.bedDue(x, 0, "0..11111.422");
        Check.due("lodgers put out, each once", x.count(6), 2);
        Check.due("hours lost", x.count(7), 8);
        Check.due("lodger 2 was put out once", x.lodgerOf(2, 5), 1);
        Check.due("one refusal more", x.lodgerOf(2, 1), 1);
        Check.due("hours of lodger 2 that are left", x.lodgerOf(2, 3), 2);
        Check.due("lodger 4 was not put out", x.lodgerOf(4, 5), 0);
    }

    private static void neighboursStay() {
        SevenAsks x = new SevenAsks();
        x.ask(3, 0, 2);
        x.ask(4, 2, 3);
        x.ask(5, 5, 3);
        for (int lodger = 6; lodger <= 8; lodger++) {
            x.ask(lodger, 0, 9);
        }
        Check.refuse(x, 9, 7);
        Check.due("the mask", x.ifPutOut(9, 2, 3), 1 << 4);
        Check.due("the bed", x.ask(9, 2, 3), 10);
        Check.bedDue(x, 0, "33999555....");
        Check.due("hours lost", x.count(7), 3);
    }

    private static void hoursThatWentByAreNotLost() {
        SevenAsks x = new SevenAsks();
        x.ask(3, 0, 6);
        x.ask(4, 0, 9);
        x.ask(5, 0, 9);
        x.ask(6, 0, 9);
        Check.refuse(x, 0, 7);
        Check.pass(x, 2);
        Check.due("bed 0 has the fewest", x.ask(0, 4, 4), 10);
        Check.bedDue(x, 0, "33..0000....");
        Check.due("hours lost", x.count(7), 4);
        Check.due("hours slept by lodger 3", x.lodgerOf(3, 4), 2);
        Check.due("hours lent to lodger 3", x.lodgerOf(3, 3), 2);
    }

    private static void mostRefusals() {
        SevenAsks x = new SevenAsks();
        for (int lodger = 3; lodger <= 6; lodger++) {
            x.ask(lodger, 0, 1);
            Check.refuse(x, lodger, 7);
        }
        Check.refuse(x, 0, 7);
        Check.due("the eighth asking", x.ask(0, 0, 1), 10);
        Check.due("refusals of the lodger put out are at most 7", x.lodgerOf(3, 1), 7);
        Check.due("which is an eighth asking again", x.ask(3, 0, 2), 10);
        Check.due("put out in turn", x.lodgerOf(0, 5), 1);
        Check.due("one refusal", x.lodgerOf(0, 1), 1);
    }

    private static void wrongInputs() {
        SevenAsks x = new SevenAsks();
        int[][] lodgers = {{-1, 0, 1}, {10, 0, 1}, {Integer.MIN_VALUE, 0, 1}, {Integer.MAX_VALUE, 99, -5}};
        int[][] hours = {{0, -1, 1}, {0, 12, 1}, {0, 0, 0}, {0, 0, 10}, {0, 11, 2}, {9, 3, -1}, {9, 4, 9},
            {9, Integer.MAX_VALUE, Integer.MAX_VALUE}, {9, 1, Integer.MAX_VALUE}, {9, Integer.MIN_VALUE, 9}};
        for (int[] a : lodgers) {
            Check.thrown(x, "ask", IndexOutOfBoundsException.class, () -> x.ask(a[0], a[1], a[2]));
            Check.thrown(x, "ifAsked", IndexOutOfBoundsException.class, () -> x.ifAsked(a[0], a[1], a[2]));
            Check.thrown(x, "ifPutOut", IndexOutOfBoundsException.class, () -> x.ifPutOut(a[0], a[1], a[2]));
        }
        for (int[] a : hours) {
            Check.thrown(x, "ask", IllegalArgumentException.class, () -> x.ask(a[0], a[1], a[2]));
            Check.thrown(x, "ifAsked", IllegalArgumentException.class, () -> x.ifAsked(a[0], a[1], a[2]));
            Check.thrown(x, "ifPutOut", IllegalArgumentException.class, () -> x.ifPutOut(a[0], a[1], a[2]));
        }
        Check.due("the last hour", x.ask(9, 11, 1), 10);
        Check.due("nine hours", x.ask(8, 3, 9), 11);
    }
}
