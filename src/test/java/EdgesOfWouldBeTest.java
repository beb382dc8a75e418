import java.util.function.Supplier;

/** A test for each sentence of the promises 19 to 24 that names a boundary case. */
public final class EdgesOfWouldBeTest {
    public static void main(String[] args) {
        ifAskedIsWhatAskWouldReturn();
        ifPutOutIsWhoWouldBePutOut();
        noneWouldBePutOut();
        refusedPutsNobodyOut();
        theMask();
        askingArguments();
        fewestBedsOfNothingAndOfAll();
        piecesSideBySideAndOverlapping();
        piecesByTheirLodgersAndBeds();
        fewestBedsAlsoOfWhatWentBy();
        sameForBoth();
        fewestBedsArguments();
        longestIsAtMostNine();
        longestEndsWithTheNight();
        longestIsZero();
        longestInOneBed();
        longestUpToTheLodgersOwnBed();
        longestWhateverTheNeedAndTheRefusals();
        longestArguments();
        mostRefusals();
        ofSeveralTheGreatestNeed();
        ofTheseTheLowest();
        fullnessFromNoneToAll();
        nothingIsChanged();
        Check.end();
    }

    /** Each bed is lent in the hours told, lodger 0 has 7 refusals, lodger 1 a favour. */
    private static SevenAsks crowded() {
        SevenAsks x = new SevenAsks();
        x.ask(5, 1, 4);
        x.ask(6, 2, 9);
        x.ask(7, 3, 3);
        x.ask(8, 4, 2);
        x.ask(9, 6, 3);
        x.ask(5, 9, 2);
        Check.refuse(x, 0, 7);
        Check.refuse(x, 3, 7);
        x.favour(1);
        x.pass();
        x.pass();
        Check.bedDue(x, 0, ".5555.99955.");
        Check.bedDue(x, 1, "..666666666.");
        Check.bedDue(x, 2, "...777......");
        Check.bedDue(x, 3, "....88......");
        return x;
    }

    private static SevenAsks crowdedAtNoNeed() {
        SevenAsks x = crowded();
        x.ask(4, 6, 6);
        x.ask(4, 4, 1);
        x.set(9);
        return x;
    }

    private interface Asking {
        void of(int lodger, int first, int hours);
    }

    private static void eachAsking(Asking asking) {
        for (int lodger = 0; lodger < 10; lodger++) {
            for (int first = 0; first < 12; first++) {
                for (int hours = 1; hours <= 9 && first + hours <= 12; hours++) {
                    asking.of(lodger, first, hours);
                }
            }
        }
    }

    // ---- promises 19 and 20

    /** "Returns what ask() would return": for each asking that there is, in three states. */
    private static void ifAskedIsWhatAskWouldReturn() {
        ifAskedIn(SevenAsks::new);
        ifAskedIn(() -> crowded());
        ifAskedIn(() -> crowdedAtNoNeed());
    }

    private static void ifAskedIn(Supplier<SevenAsks> maker) {
        eachAsking((lodger, first, hours) -> {
            SevenAsks x = maker.get();
            int told = x.ifAsked(lodger, first, hours);
            Check.due("ask(" + lodger + ", " + first + ", " + hours + ")", x.ask(lodger, first, hours), told);
        });
    }

    /** "Returns the lodgers who would be put out by this asking, as a mask": for each asking that there is. */
    private static void ifPutOutIsWhoWouldBePutOut() {
        ifPutOutIn(SevenAsks::new);
        ifPutOutIn(() -> crowded());
        ifPutOutIn(() -> crowdedAtNoNeed());
    }

    private static void ifPutOutIn(Supplier<SevenAsks> maker) {
        eachAsking((lodger, first, hours) -> {
            SevenAsks x = maker.get();
            int told = x.ifPutOut(lodger, first, hours);
            x.ask(lodger, first, hours);
            int mask = 0;
            for (int other = 0; other < 10; other++) {
                mask |= x.lodgerOf(other, 5) << other;
            }
            Check.due("put out by (" + lodger + ", " + first + ", " + hours + ")", told, mask);
        });
    }

    /** "0 if none would": a bed is free, by an eighth asking or not. */
    private static void noneWouldBePutOut() {
        SevenAsks x = crowded();
        Check.due("an eighth asking, bed 2 is free", x.ifPutOut(0, 6, 6), 0);
        Check.due("it is done", x.ifAsked(0, 6, 6), 12);
        Check.due("no eighth asking", x.ifPutOut(9, 2, 1), 0);
        Check.due("it is done", x.ifAsked(9, 2, 1), 12);
    }

    /** "or it would be refused": for each reason, and of an eighth asking. */
    private static void refusedPutsNobodyOut() {
        SevenAsks x = crowded();
        int[][] refused = {{1, 9, 1, 4}, {2, 6, 2, 9}, {3, 2, 4, 1}, {4, 4, 4, 1}, {1, 0, 1, 9}};
        for (int[] a : refused) {
            Check.due("the reason", x.ifAsked(a[1], a[2], a[3]), a[0]);
            Check.due("nobody", x.ifPutOut(a[1], a[2], a[3]), 0);
        }
        SevenAsks y = crowded();
        y.ask(3, 2, 1);
        Check.refuse(y, 3, 7);
        Check.due("reason 2, an eighth asking", y.ifAsked(3, 2, 3), 2);
        Check.due("nobody", y.ifPutOut(3, 2, 3), 0);
    }

    /** "as a mask": the lodgers 0 and 9, several, and one who has two pieces. */
    private static void theMask() {
        SevenAsks x = new SevenAsks();
        x.set(0);
        for (int hour = 0; hour < 12; hour++) {
            x.ask("090599509059".charAt(hour) - '0', hour, 1);
        }
        for (int lodger = 4; lodger <= 7; lodger += lodger == 4 ? 2 : 1) {
            x.ask(lodger, 0, 6);
            x.ask(lodger, 6, 6);
        }
        x.set(3);
        Check.due("all is lent", x.count(2), 48);
        Check.refuse(x, 8, 7);
        Check.due("lodger 0", x.ifPutOut(8, 0, 1), 1);
        Check.due("lodger 9", x.ifPutOut(8, 1, 1), 512);
        Check.due("both, one of them twice", x.ifPutOut(8, 0, 3), 513);
        Check.due("hours side by side", x.ifPutOut(8, 4, 2), 512);
        Check.due("not the one in front, nor the one behind", x.ifPutOut(8, 3, 3), 512 + 32);
        Check.due("three of them", x.ifPutOut(8, 3, 9), 512 + 32 + 1);
    }

    /** "first: 0 to 11", "hours: 1 to 9, so that the last one is at most 11", of both. */
    private static void askingArguments() {
        for (int first = -1; first <= 12; first++) {
            for (int hours = 0; hours <= 13; hours++) {
                if (first >= 0 && first <= 11 && hours >= 1 && hours <= 9 && first + hours <= 12) {
                    continue;
                }
                int from = first;
                int many = hours;
                String call = "(9, " + first + ", " + hours + ")";
                Check.throwsOnly(SevenAsks::new, "ifAsked" + call, IllegalArgumentException.class,
                        x -> x.ifAsked(9, from, many));
                Check.throwsOnly(SevenAsks::new, "ifPutOut" + call, IllegalArgumentException.class,
                        x -> x.ifPutOut(9, from, many));
                Check.throwsOnly(SevenAsks::new, "ifAsked" + call, IndexOutOfBoundsException.class,
                        x -> x.ifAsked(10, from, many));
                Check.throwsOnly(SevenAsks::new, "ifPutOut" + call, IndexOutOfBoundsException.class,
                        x -> x.ifPutOut(-1, from, many));
            }
        }
        int[] far = {Integer.MIN_VALUE, Integer.MAX_VALUE};
        for (int number : far) {
            Check.throwsOnly(Check::busy, "ifAsked", IllegalArgumentException.class, x -> x.ifAsked(0, 3, number));
            Check.throwsOnly(Check::busy, "ifPutOut", IllegalArgumentException.class, x -> x.ifPutOut(0, number, number));
        }
    }

    // ---- promise 21

    private static void fewestDue(SevenAsks x, String call, int want) {
        Check.due(call + ", piece by piece", x.fewestBeds(0), want);
        Check.due(call + ", by the hour", x.fewestBeds(1), want);
    }

    /** "with how few beds all that is lent in this night could do": nothing, one hour, all hours. */
    private static void fewestBedsOfNothingAndOfAll() {
        fewestDue(new SevenAsks(), "nothing", 0);
        for (int hour = 0; hour < 12; hour++) {
            SevenAsks x = new SevenAsks();
            x.ask(9, hour, 1);
            fewestDue(x, "hour " + hour, 1);
            for (int lodger = 8; lodger >= 6; lodger--) {
                x.ask(lodger, hour, 1);
                fewestDue(x, "one more", 10 - lodger);
            }
        }
        SevenAsks y = new SevenAsks();
        for (int lodger = 3; lodger <= 6; lodger++) {
            y.ask(lodger, 0, 9);
            y.ask(lodger, 9, 3);
        }
        fewestDue(y, "all", 4);
    }

    /** "each in the lowest bed that is free": a bed is free in the hour behind a piece, not in its last one. */
    private static void piecesSideBySideAndOverlapping() {
        SevenAsks x = new SevenAsks();
        x.ask(3, 0, 3);
        x.ask(4, 2, 3);
        x.ask(5, 4, 3);
        x.ask(6, 6, 3);
        fewestDue(x, "each overlaps the next", 2);
        x = new SevenAsks();
        x.ask(3, 0, 4);
        x.ask(4, 2, 2);
        x.ask(5, 2, 6);
        Check.due("of bed 2 the half", x.giveBack(3, 2), 2);
        x.ask(6, 4, 4);
        Check.bedDue(x, 0, "33..6666....");
        Check.bedDue(x, 1, "..44........");
        Check.bedDue(x, 2, "..555555....");
        fewestDue(x, "in three beds, though two would do", 2);
        x = new SevenAsks();
        x.ask(3, 0, 2);
        x.ask(4, 0, 3);
        x.ask(5, 0, 4);
        x.ask(6, 0, 5);
        x.giveBack(3, 0);
        x.giveBack(4, 0);
        x.giveBack(5, 0);
        Check.bedDue(x, 3, "66666.......");
        fewestDue(x, "bed 3 alone", 1);
        x.ask(9, 5, 7);
        fewestDue(x, "side by side, in two beds", 1);
        x.giveBack(9, 5);
        x.ask(9, 4, 7);
        fewestDue(x, "an hour of both", 2);
    }

    /** "the hours in which a lodger has a bed without a gap as one piece, in one bed again". */
    private static void piecesByTheirLodgersAndBeds() {
        SevenAsks x = new SevenAsks();
        x.ask(3, 0, 2);
        x.ask(4, 0, 4);
        x.ask(5, 2, 4);
        x.ask(4, 4, 2);
        Check.bedDue(x, 0, "335555......");
        Check.bedDue(x, 1, "444444......");
        fewestDue(x, "two pieces and a long one", 2);
        x.giveBack(5, 3);
        x.giveBack(4, 2);
        x.ask(4, 3, 3);
        Check.bedDue(x, 0, "335444......");
        Check.bedDue(x, 1, "44..........");
        fewestDue(x, "one lodger in two beds", 2);
        x.giveBack(4, 0);
        fewestDue(x, "three pieces in a row", 1);
    }

    /** "(also those that went by)": but not those of the night before. */
    private static void fewestBedsAlsoOfWhatWentBy() {
        SevenAsks x = new SevenAsks();
        for (int lodger = 5; lodger <= 8; lodger++) {
            x.ask(lodger, 0, 1);
        }
        x.ask(9, 3, 2);
        for (int gone = 0; gone < 12; gone++) {
            fewestDue(x, gone + " went by", 4);
            x.pass();
        }
        fewestDue(x, "the next night", 0);
    }

    /** "Returns the fewest beds (the same for both)": for many nights, laid out by a fixed row. */
    private static void sameForBoth() {
        for (int night = 0; night < 500; night++) {
            SevenAsks x = new SevenAsks();
            x.set(0);
            int row = night * 7919 + 1;
            for (int call = 0; call < 24; call++) {
                row = row * 1103515245 + 12345;
                int lodger = (row >>> 8) % 10;
                int first = (row >>> 16) % 12;
                x.ask(lodger, first, Math.min(1 + (row >>> 20) % 5, 12 - first));
                if (call % 5 == 4) {
                    x.giveBack((row >>> 12) % 10, first);
                }
            }
            Check.due("night " + night, x.fewestBeds(0), x.fewestBeds(1));
        }
    }

    /** "what: 0" and "1". */
    private static void fewestBedsArguments() {
        int[] none = {Integer.MIN_VALUE, -1, 2, 3, Integer.MAX_VALUE};
        for (int what : none) {
            Check.throwsOnly(Check::busy, "fewestBeds(" + what + ")", IllegalArgumentException.class,
                    x -> x.fewestBeds(what));
        }
    }

    // ---- promise 22

    /** "at most 9": though 12, 11 or 10 hours are free. */
    private static void longestIsAtMostNine() {
        for (int first = 0; first <= 3; first++) {
            Check.due("from hour " + first, new SevenAsks().longest(9, first), 9);
        }
        SevenAsks x = new SevenAsks();
        x.ask(3, 9, 1);
        x.ask(4, 9, 1);
        x.ask(5, 9, 1);
        x.ask(6, 9, 1);
        Check.due("nine are free", x.longest(9, 0), 9);
        x.ask(7, 8, 1);
        x.ask(8, 8, 1);
        x.ask(5, 8, 1);
        x.ask(6, 8, 1);
        Check.due("eight are free", x.longest(9, 0), 8);
    }

    /** "from this one on": the night's last hour is the last of them. */
    private static void longestEndsWithTheNight() {
        for (int first = 3; first <= 11; first++) {
            Check.due("from hour " + first, new SevenAsks().longest(9, first), 12 - first);
        }
        SevenAsks x = new SevenAsks();
        Check.pass(x, 12);
        Check.due("in the next night", x.longest(9, 0), 9);
    }

    /** "0 if there are none": for the reason 1, 2 or 4. */
    private static void longestIsZero() {
        SevenAsks x = new SevenAsks();
        for (int lodger = 5; lodger <= 8; lodger++) {
            x.ask(lodger, 4, 2);
        }
        x.ask(9, 7, 1);
        x.pass();
        x.pass();
        Check.due("reason 1", x.longest(9, 1), 0);
        Check.due("the first that did not go by", x.longest(9, 2), 2);
        Check.due("reason 2, the first hour", x.longest(9, 7), 0);
        Check.due("reason 4, the first hour", x.longest(9, 4), 0);
        Check.due("reason 4, the last hour of it", x.longest(9, 5), 0);
        Check.due("behind it", x.longest(9, 6), 1);
    }

    /** "for which an asking would not be refused": all hours in one bed, the one that is free longest. */
    private static void longestInOneBed() {
        SevenAsks x = crowded();
        Check.due("bed 3", x.longest(9, 2), 2);
        Check.due("bed 0, for one hour", x.longest(2, 5), 1);
        Check.due("the beds 2 and 3", x.longest(2, 6), 6);
        x.ask(4, 6, 3);
        x.favour(2);
        x.ask(2, 6, 4);
        Check.bedDue(x, 2, "...777444...");
        Check.bedDue(x, 3, "....882222..");
        Check.due("none", x.longest(3, 6), 0);
        Check.due("bed 2", x.longest(3, 9), 3);
        Check.due("all but bed 1", x.longest(3, 11), 1);
        for (int bed = 0; bed < 4; bed++) {
            Check.due("bed " + bed + " alone, for two hours", oneFreeBed(bed).longest(9, 3), 2);
            Check.due("bed " + bed + " alone, for one hour", oneFreeBed(bed).longest(9, 4), 1);
            Check.due("all the others, behind it", oneFreeBed(bed).longest(9, 5), 7);
        }
    }

    /** In the hours 3 and 4 the bed alone is free, in hour 5 all the others. */
    private static SevenAsks oneFreeBed(int free) {
        SevenAsks x = new SevenAsks();
        x.set(0);
        for (int bed = 0; bed < 4; bed++) {
            x.ask(4 + bed, 3, 2);
        }
        for (int bed = 0; bed < free; bed++) {
            x.ask(bed, 5, 1);
        }
        Check.due("hour 5", x.ask(8, 5, 1), 10 + free);
        for (int bed = 0; bed < free; bed++) {
            x.giveBack(bed, 5);
        }
        x.giveBack(4 + free, 3);
        return x;
    }

    /** "refused for the reason 1, 2 or 4", here 2: up to the hour in which the lodger has a bed, in whichever bed. */
    private static void longestUpToTheLodgersOwnBed() {
        for (int hour = 0; hour < 12; hour++) {
            SevenAsks x = new SevenAsks();
            x.ask(8, hour, 1);
            x.ask(9, hour, 1);
            Check.due("up to hour " + hour, x.longest(9, 0), Math.min(9, hour));
            Check.due("hour " + hour, x.longest(9, hour), 0);
            Check.due("another's", x.longest(7, 0), 9);
        }
    }

    /** "(whatever the need and the refusals)": little need, 7 refusals, a favour. */
    private static void longestWhateverTheNeedAndTheRefusals() {
        SevenAsks x = crowded();
        for (int first = 0; first < 12; first++) {
            int others = x.longest(4, first);
            Check.due("7 refusals, from hour " + first, x.longest(0, first), others);
            Check.due("7 refusals, some need", x.longest(3, first), others);
            Check.due("a favour", x.longest(1, first), others);
            Check.due("little need", x.longest(2, first), others);
        }
        SevenAsks y = new SevenAsks();
        for (int lodger = 5; lodger <= 8; lodger++) {
            y.ask(lodger, 0, 1);
        }
        Check.refuse(y, 9, 7);
        Check.due("it would put somebody out", y.longest(9, 0), 0);
        y.set(9);
        Check.due("no need is enough", y.longest(0, 1), 9);
    }

    /** "lodger: 0 to 9", "first: 0 to 11", and the exception that is named first. */
    private static void longestArguments() {
        int[] none = {Integer.MIN_VALUE, -1, 12, 13, Integer.MAX_VALUE};
        for (int number : none) {
            Check.throwsOnly(Check::busy, "longest(9, " + number + ")", IllegalArgumentException.class,
                    x -> x.longest(9, number));
            Check.throwsOnly(Check::busy, "longest(" + number + ", 11)", IndexOutOfBoundsException.class,
                    x -> x.longest(number, 11));
            Check.throwsOnly(Check::busy, "longest of both", IndexOutOfBoundsException.class,
                    x -> x.longest(number, number));
        }
    }

    // ---- promise 23

    /** "the lodger with the most refusals": each lodger, by one, whatever the needs. */
    private static void mostRefusals() {
        for (int lodger = 0; lodger < 10; lodger++) {
            SevenAsks x = new SevenAsks();
            Check.refuse(x, 9 - lodger, 1);
            Check.refuse(x, lodger, 2);
            Check.due("two refusals", x.poorest(), lodger);
            Check.refuse(x, lodger, 5);
            Check.refuse(x, 9 - lodger, 5);
            Check.due("seven refusals", x.poorest(), lodger);
        }
    }

    /** "of several the one with the greatest need". */
    private static void ofSeveralTheGreatestNeed() {
        SevenAsks x = new SevenAsks();
        Check.due("no refusals", x.poorest(), 9);
        for (int lodger = 0; lodger < 5; lodger++) {
            Check.refuse(x, lodger, 1);
            Check.due("one refusal each", x.poorest(), lodger);
        }
        x.need(1, 9);
        Check.due("a greater need", x.poorest(), 1);
        x.need(0, 8);
        Check.due("not as great", x.poorest(), 1);
    }

    /** "of these the lowest". */
    private static void ofTheseTheLowest() {
        SevenAsks x = new SevenAsks();
        x.need(8, 9);
        Check.due("8 and 9", x.poorest(), 8);
        x.need(0, 9);
        Check.due("0, 8 and 9", x.poorest(), 0);
        x.need(0, 8);
        Check.due("8 and 9", x.poorest(), 8);
        SevenAsks y = new SevenAsks();
        Check.run(y, "2@l1;1@l1;0@l1;2@l1;1@l1;0@l1");
        Check.due("the greatest need", y.poorest(), 2);
        y.need(1, 2);
        Check.due("1 and 2", y.poorest(), 1);
        y.need(0, 2);
        Check.due("0, 1 and 2", y.poorest(), 0);
    }

    // ---- promise 24

    /** "the hours lent in this night as a double, divided by 48": each number from 0 to 48. */
    private static void fullnessFromNoneToAll() {
        SevenAsks x = new SevenAsks();
        x.set(0);
        Check.due("none", x.fullness(), 0.0);
        Check.due("no minus in front of it", Double.doubleToRawLongBits(x.fullness()), 0L);
        for (int lent = 1; lent <= 48; lent++) {
            int place = lent - 1;
            x.ask(place / 12, place % 12, 1);
            Check.due(lent + " hours", x.fullness(), (double) lent / 48);
        }
        Check.due("all", x.fullness(), 1.0);
        Check.pass(x, 11);
        Check.due("what went by, too", x.fullness(), 1.0);
        x.pass();
        Check.due("the next night", x.fullness(), 0.0);
    }

    // ---- all of them

    /** "what would be; nothing is changed". */
    private static void nothingIsChanged() {
        Check.changesNothing(() -> crowded(), "ifAsked, an eighth asking", x -> x.ifAsked(0, 3, 9));
        Check.changesNothing(() -> crowded(), "ifAsked, with a favour", x -> x.ifAsked(1, 6, 1));
        Check.changesNothing(() -> crowded(), "ifAsked, refused", x -> x.ifAsked(2, 6, 1));
        Check.changesNothing(() -> crowded(), "ifPutOut", x -> x.ifPutOut(0, 3, 9));
        Check.changesNothing(() -> crowded(), "fewestBeds(0)", x -> x.fewestBeds(0));
        Check.changesNothing(() -> crowded(), "fewestBeds(1)", x -> x.fewestBeds(1));
        Check.changesNothing(() -> crowded(), "longest", x -> x.longest(4, 6));
        Check.changesNothing(() -> crowded(), "poorest", x -> x.poorest());
        Check.changesNothing(() -> crowded(), "fullness", x -> x.fullness());
        Check.changesNothing(() -> crowded(), "digest", x -> x.digest());
    }
}
