/** A test for each sentence on asking (the terms and promise 2) that names a boundary case. */
public final class EdgesOfAskingTest {
    public static void main(String[] args) {
        sideBySideInOneBed();
        reasonOneHoursThatWentBy();
        reasonTwoABedInAnHourOfIt();
        reasonThreeLessThanTheSetting();
        reasonFourNoBedFreeInAll();
        firstOfTheseReasons();
        lowestBedThatIsFree();
        refusalsBecomeZero();
        favourPassesReasonThreeOver();
        favourIsUsedUpOnlyForABed();
        favourIsNotUsedUpByAnEighthAsking();
        eighthAskingBehindSevenRefusals();
        eighthAskingPassesThreeAndFourOver();
        eighthAskingIsRefusedForOneAndTwo();
        fewestHoursOfTheAsking();
        ofSeveralTheLowest();
        pieceIsLostBeyondTheAsking();
        pieceEndsAtAGapAndAtAnother();
        hoursInAnotherBedStay();
        hoursThatWentByStay();
        putOutOnceForEachLodger();
        refusalsOfThosePutOutAreAtMostSeven();
        refusalForThreeOrFourIsOneMore();
        refusalForOneOrTwoIsNone();
        neverRefusedForWantOfABed();
        firstAndHoursInRange();
        returnsTenAndTheBed();
        undoableAlsoIfRefused();
        Check.end();
    }

    /** Bed 0 is free in the hours 0 to 5, bed 1 in 6 to 11; all others are lent. */
    private static SevenAsks twoHalfBeds() {
        SevenAsks x = new SevenAsks();
        for (int bed = 0; bed < 4; bed++) {
            x.ask(8 - bed, 0, 6);
        }
        for (int bed = 0; bed < 4; bed++) {
            x.ask(bed == 0 ? 9 : 8 - bed, 6, 6);
        }
        x.giveBack(8, 0);
        x.giveBack(7, 6);
        Check.bedDue(x, 0, "......999999");
        Check.bedDue(x, 1, "777777......");
        Check.bedDue(x, 2, "666666666666");
        Check.bedDue(x, 3, "555555555555");
        return x;
    }

    /** "for the hours from a first one, as many as told, side by side, in one bed". */
    private static void sideBySideInOneBed() {
        SevenAsks x = twoHalfBeds();
        Check.due("no bed over the middle", x.ask(3, 5, 2), 4);
        Check.due("no bed over the middle", x.ask(3, 2, 9), 4);
        Check.due("up to the middle", x.ask(3, 3, 3), 10);
        Check.due("from the middle on", x.ask(3, 6, 2), 11);
        Check.bedDue(x, 0, "...333999999");
        Check.bedDue(x, 1, "77777733....");
        Check.due("as many as told", x.lodgerOf(3, 3), 5);
    }

    /** "1: an hour of it is not later than those that went by". */
    private static void reasonOneHoursThatWentBy() {
        for (int gone = 0; gone < 12; gone++) {
            for (int first = 0; first < 12; first++) {
                SevenAsks x = new SevenAsks();
                Check.pass(x, gone);
                String call = gone + " went by, first " + first;
                Check.due(call, x.ask(9, first, 1), first < gone ? 1 : 10);
                Check.due(call + ", as many as go", x.ask(8, first, Math.min(9, 12 - first)), first < gone ? 1 : 11);
                Check.due(call + ", counted", x.refused(1), first < gone ? 2 : 0);
            }
        }
    }

    /** "2: the lodger has a bed in an hour of it"; here the hours 4 to 6, in each of the beds. */
    private static void reasonTwoABedInAnHourOfIt() {
        for (int bed = 0; bed < 4; bed++) {
            for (int first = 0; first < 12; first++) {
                for (int hours = 1; hours <= 9 && first + hours <= 12; hours++) {
                    SevenAsks x = Check.alone(9, bed, 4, 3);
                    boolean touches = first <= 6 && first + hours > 4;
                    Check.due("hours " + first + ", " + hours, x.ask(9, first, hours), touches ? 2 : 10);
                    Check.due("counted", x.refused(2), touches ? 1 : 0);
                }
            }
        }
    }

    /** "3: the need of the lodger is less than setting 0". */
    private static void reasonThreeLessThanTheSetting() {
        for (int need = 0; need <= 9; need++) {
            for (int setting = 0; setting <= 9; setting++) {
                SevenAsks x = new SevenAsks();
                x.need(5, need);
                x.set(setting);
                Check.due("need " + need + ", setting " + setting, x.ask(5, 0, 1), need < setting ? 3 : 10);
                Check.due("counted", x.refused(3), need < setting ? 1 : 0);
            }
        }
    }

    /** "4: no bed is free in all of its hours": the last free bed, an hour in front, an hour behind. */
    private static void reasonFourNoBedFreeInAll() {
        SevenAsks x = new SevenAsks();
        x.ask(3, 4, 2);
        x.ask(4, 4, 2);
        x.ask(5, 4, 2);
        Check.due("one bed is free", x.ifAsked(9, 0, 9), 13);
        x.ask(6, 5, 1);
        Check.due("an hour of it is lent in each bed", x.ask(9, 0, 9), 4);
        Check.due("the last hour of it is", x.ask(9, 0, 6), 4);
        Check.due("the first hour of it is", x.ask(9, 5, 7), 4);
        Check.due("counted", x.refused(4), 3);
        Check.due("up to there", x.ifAsked(9, 0, 5), 13);
        Check.due("from there on", x.ask(9, 6, 6), 10);
    }

    /** "An asking is refused for the first of these reasons that is so": each pair of them. */
    private static void firstOfTheseReasons() {
        SevenAsks x = new SevenAsks();
        for (int lodger = 5; lodger <= 8; lodger++) {
            x.ask(lodger, 0, 4);
        }
        x.pass();
        x.need(5, 0);
        Check.due("4 alone", x.ask(9, 1, 1), 4);
        Check.due("3 alone", x.ask(0, 4, 1), 3);
        Check.due("3 ahead of 4", x.ask(0, 1, 1), 3);
        Check.due("2 ahead of 4", x.ask(6, 1, 1), 2);
        Check.due("2 ahead of 3 and 4", x.ask(5, 1, 4), 2);
        x.giveBack(6, 1);
        Check.due("2 ahead of 3", x.ask(5, 1, 1), 2);
        Check.due("1 ahead of 2", x.ask(6, 0, 1), 1);
        Check.due("1 ahead of 3", x.ask(0, 0, 1), 1);
        Check.due("1 ahead of 4", x.ask(9, 0, 1), 1);
        Check.due("1 ahead of all", x.ask(5, 0, 2), 1);
        int[] want = {4, 3, 2, 1};
        for (int reason = 1; reason <= 4; reason++) {
            Check.due("refused for " + reason, x.refused(reason), want[reason - 1]);
        }
        Check.due("refused", x.count(5), 10);
    }

    /** "Otherwise the lodger gets the lowest bed that is free in all of them". */
    private static void lowestBedThatIsFree() {
        SevenAsks x = new SevenAsks();
        x.ask(3, 0, 1);
        x.ask(4, 2, 1);
        Check.bedDue(x, 0, "3.4.........");
        Check.due("the hour in between", x.ask(5, 1, 1), 10);
        Check.due("bed 0 is lent in the first hour", x.ask(6, 2, 2), 11);
        Check.due("bed 1 is lent in the last hour", x.ask(7, 0, 3), 12);
        Check.due("bed 2 is lent in the middle", x.ask(8, 1, 3), 13);
        Check.due("the lowest again", x.ask(9, 3, 9), 10);
        Check.bedDue(x, 0, "354999999999");
        Check.bedDue(x, 1, "..66........");
        Check.bedDue(x, 2, "777.........");
        Check.bedDue(x, 3, ".888........");
    }

    /** "and the lodger's refusals become 0". */
    private static void refusalsBecomeZero() {
        for (int refusals = 0; refusals <= 7; refusals++) {
            SevenAsks x = new SevenAsks();
            Check.refuse(x, 5, refusals);
            Check.refuse(x, 6, 1);
            Check.due("refusals", x.lodgerOf(5, 1), refusals);
            Check.due("a free bed", x.ask(5, 0, 1), 10);
            Check.due("refusals behind " + refusals, x.lodgerOf(5, 1), 0);
            Check.due("another's refusals stay", x.lodgerOf(6, 1), 1);
        }
    }

    /** "If the need is less than setting 0, but the lodger has a favour, the reason 3 is passed over". */
    private static void favourPassesReasonThreeOver() {
        for (int favours = 0; favours <= 3; favours++) {
            SevenAsks x = new SevenAsks();
            for (int i = 0; i < favours; i++) {
                x.favour(2);
            }
            x.favour(1);
            Check.due(favours + " favours", x.ask(2, 0, 1), favours == 0 ? 3 : 10);
            Check.due("one is used up", x.lodgerOf(2, 2), Math.max(0, favours - 1));
            Check.due("used up", x.count(8), favours == 0 ? 0 : 1);
            Check.due("another's favour stays", x.lodgerOf(1, 2), 1);
        }
        SevenAsks y = new SevenAsks();
        y.favour(3);
        Check.due("the need is as great as the setting", y.ask(3, 0, 1), 10);
        Check.due("no favour is used up", y.lodgerOf(3, 2), 1);
        Check.due("used up", y.count(8), 0);
    }

    /** "one favour is used up then, if the lodger gets the bed": not if a reason is left. */
    private static void favourIsUsedUpOnlyForABed() {
        SevenAsks x = new SevenAsks();
        x.favour(0);
        x.favour(0);
        for (int lodger = 5; lodger <= 8; lodger++) {
            x.ask(lodger, 4, 1);
        }
        Check.due("bed 0", x.ask(0, 0, 2), 10);
        x.pass();
        Check.due("reason 1", x.ask(0, 0, 1), 1);
        Check.due("reason 2", x.ask(0, 1, 1), 2);
        Check.due("reason 4", x.ask(0, 4, 1), 4);
        Check.due("favours", x.lodgerOf(0, 2), 1);
        Check.due("used up", x.count(8), 1);
        Check.due("one refusal, for the reason 4", x.lodgerOf(0, 1), 1);
    }

    /** "(not by an eighth asking)": in a free bed, and in one that another is put out of. */
    private static void favourIsNotUsedUpByAnEighthAsking() {
        SevenAsks x = new SevenAsks();
        Check.refuse(x, 0, 7);
        x.favour(0);
        Check.due("a free bed", x.ask(0, 0, 1), 10);
        Check.due("favours", x.lodgerOf(0, 2), 1);
        Check.due("used up", x.count(8), 0);
        Check.due("the next asking is no eighth one", x.ask(0, 1, 1), 10);
        Check.due("favours", x.lodgerOf(0, 2), 0);
        Check.due("used up", x.count(8), 1);
        SevenAsks y = fullInHour(6);
        Check.refuse(y, 0, 7);
        y.favour(0);
        Check.due("another is put out", y.ask(0, 6, 1), 10);
        Check.due("favours", y.lodgerOf(0, 2), 1);
        Check.due("used up", y.count(8), 0);
    }

    /** The lodgers 5 to 8 have the beds 0 to 3 in the hour. */
    private static SevenAsks fullInHour(int hour) {
        SevenAsks x = new SevenAsks();
        for (int lodger = 5; lodger <= 8; lodger++) {
            x.ask(lodger, hour, 1);
        }
        return x;
    }

    /** "If the lodger has 7 refusals, the asking is an eighth one": 6 are not enough. */
    private static void eighthAskingBehindSevenRefusals() {
        for (int refusals = 0; refusals <= 7; refusals++) {
            SevenAsks x = fullInHour(6);
            Check.refuse(x, 2, refusals);
            Check.due(refusals + " refusals, little need", x.ifAsked(2, 0, 1), refusals == 7 ? 10 : 3);
            x.set(0);
            Check.due(refusals + " refusals, no bed", x.ifAsked(2, 6, 1), refusals == 7 ? 10 : 4);
            Check.due(refusals + " refusals, a free bed", x.ask(2, 0, 1), 10);
            Check.due("eighth askings", x.lodgerOf(2, 6), refusals == 7 ? 1 : 0);
            Check.due("another's eighth askings", x.lodgerOf(3, 6), 0);
        }
    }

    /** "the reasons 3 and 4 are passed over": one of them, and both. */
    private static void eighthAskingPassesThreeAndFourOver() {
        SevenAsks x = fullInHour(6);
        Check.refuse(x, 0, 7);
        Check.due("3 alone", x.ifAsked(0, 5, 1), 10);
        Check.due("3 and 4", x.ifAsked(0, 6, 1), 10);
        x.need(0, 9);
        Check.due("4 alone", x.ifAsked(0, 6, 1), 10);
        Check.due("neither", x.ifAsked(0, 5, 1), 10);
        Check.due("the asking", x.ask(0, 6, 1), 10);
        Check.due("refused for 3", x.refused(3), 7);
        Check.due("refused for 4", x.refused(4), 0);
    }

    /** Of the eighth asking, too: "An asking is refused" for the reasons 1 and 2. */
    private static void eighthAskingIsRefusedForOneAndTwo() {
        SevenAsks x = new SevenAsks();
        x.ask(9, 1, 2);
        Check.refuse(x, 9, 7);
        x.pass();
        Check.due("reason 1", x.ask(9, 0, 1), 1);
        Check.due("reason 2", x.ask(9, 2, 1), 2);
        Check.due("refusals stay 7", x.lodgerOf(9, 1), 7);
        Check.due("no eighth asking is done", x.lodgerOf(9, 6), 0);
        Check.due("put out", x.ifPutOut(9, 2, 1), 0);
        Check.due("an eighth asking still", x.ask(9, 3, 1), 10);
        Check.due("one is done", x.lodgerOf(9, 6), 1);
    }

    /** Of the hours 4 to 6, bed 0 is lent in three, the beds 1 to 3 in as many as told. */
    private static SevenAsks lentInFourToSix(int one, int two, int three) {
        SevenAsks x = new SevenAsks();
        x.ask(3, 4, 3);
        x.ask(4, 4, one);
        x.ask(5, 4, two);
        x.ask(6, 4, three);
        Check.refuse(x, 0, 7);
        return x;
    }

    /** "the bed in which the fewest hours of it are lent to others": of the asking's hours alone. */
    private static void fewestHoursOfTheAsking() {
        Check.due("bed 1", lentInFourToSix(1, 2, 2).ask(0, 4, 3), 11);
        Check.due("bed 2", lentInFourToSix(2, 1, 2).ask(0, 4, 3), 12);
        Check.due("bed 3", lentInFourToSix(2, 2, 1).ask(0, 4, 3), 13);
        Check.due("one hour alone is asked for", lentInFourToSix(2, 2, 1).ask(0, 4, 1), 10);
        SevenAsks x = new SevenAsks();
        x.ask(3, 5, 2);
        x.ask(4, 6, 6);
        x.ask(5, 5, 2);
        x.ask(6, 5, 2);
        Check.refuse(x, 0, 7);
        Check.due("a long piece with one hour in it", x.ask(0, 5, 2), 11);
        Check.bedDue(x, 1, ".....00.....");
        Check.due("hours lost", x.count(7), 6);
    }

    /** "of several the lowest". */
    private static void ofSeveralTheLowest() {
        Check.due("all four", lentInFourToSix(3, 3, 3).ask(0, 4, 3), 10);
        Check.due("1, 2 and 3", lentInFourToSix(2, 2, 2).ask(0, 4, 3), 11);
        Check.due("1 and 3", lentInFourToSix(1, 2, 1).ask(0, 4, 3), 11);
        Check.due("2 and 3", lentInFourToSix(3, 1, 1).ask(0, 4, 3), 12);
    }

    /** All beds are lent in the hours 0 to 11; bed 0 as the line tells, all of need 0. */
    private static SevenAsks fullHouse(String line) {
        SevenAsks x = new SevenAsks();
        x.set(0);
        for (int hour = 0; hour < 12; hour++) {
            x.ask(line.charAt(hour) - '0', hour, 1);
        }
        for (int bed = 1; bed < 4; bed++) {
            x.ask(6 + bed, 0, 6);
            x.ask(6 + bed, 6, 6);
        }
        x.set(9);
        x.need(6, 0);
        Check.due("all are lent", x.count(2), 48);
        Check.bedDue(x, 0, line);
        Check.run(x, "6@l1;6@l1;6@l1;6@l1;6@l1;6@l1;6@l1");
        Check.due("refusals", x.lodgerOf(6, 1), 7);
        return x;
    }

    /** "each of them loses, of the hours in which this lodger has this bed without a gap, an hour of the asking among them". */
    private static void pieceIsLostBeyondTheAsking() {
        SevenAsks x = fullHouse("000000000000");
        Check.due("an hour in the middle", x.ask(6, 5, 1), 10);
        Check.bedDue(x, 0, ".....6......");
        Check.due("hours lost", x.count(7), 12);
        x = fullHouse("011111222220");
        Check.due("the last hour of one, the first of the next", x.ask(6, 5, 2), 10);
        Check.bedDue(x, 0, "0....66....0");
        Check.due("hours lost", x.count(7), 10);
        x = fullHouse("011111222220");
        Check.due("the first hour of the night", x.ask(6, 0, 1), 10);
        Check.bedDue(x, 0, "611111222220");
        x = fullHouse("011111222220");
        Check.due("the last hour of the night", x.ask(6, 11, 1), 10);
        Check.bedDue(x, 0, "011111222226");
    }

    /** "without a gap": a gap, or another lodger, ends the hours that are lost. */
    private static void pieceEndsAtAGapAndAtAnother() {
        SevenAsks x = fullHouse("001000002000");
        Check.due("the hours 5 and 6", x.ask(6, 5, 2), 10);
        Check.bedDue(x, 0, "001..66.2000");
        Check.due("hours lost", x.count(7), 5);
        x = fullHouse("000011110000");
        x.giveBack(1, 6);
        Check.bedDue(x, 0, "000011..0000");
        Check.due("a free hour in front", x.ask(6, 7, 3), 10);
        Check.bedDue(x, 0, "000011.666..");
        Check.due("put out", x.count(6), 1);
        Check.due("hours lost", x.count(7), 4);
        x = fullHouse("000011110000");
        x.giveBack(1, 4);
        Check.due("free hours in the middle", x.ask(6, 3, 6), 10);
        Check.bedDue(x, 0, "...666666...");
        Check.due("put out, once", x.count(6), 1);
        Check.due("hours lost", x.count(7), 8);
    }

    /** "this bed": hours next to them that the lodger has in another bed are kept. */
    private static void hoursInAnotherBedStay() {
        SevenAsks x = new SevenAsks();
        x.ask(9, 3, 1);
        x.ask(3, 2, 2);
        x.ask(3, 4, 2);
        x.ask(4, 4, 2);
        x.ask(5, 4, 2);
        x.ask(6, 4, 2);
        Check.bedDue(x, 0, "...933......");
        Check.bedDue(x, 1, "..3344......");
        Check.refuse(x, 0, 7);
        Check.due("bed 0", x.ask(0, 5, 1), 10);
        Check.bedDue(x, 0, "...9.0......");
        Check.bedDue(x, 1, "..3344......");
        Check.due("hours of lodger 3", x.lodgerOf(3, 3), 2);
    }

    /** "those that did not go by": none, one, and all but the last hour of a piece went by. */
    private static void hoursThatWentByStay() {
        String[] want = {"......6.....", "0.....6.....", "0000006....."};
        int[] gone = {0, 1, 6};
        int[] lost = {12, 11, 6};
        for (int i = 0; i < gone.length; i++) {
            SevenAsks x = fullHouse("000000000000");
            Check.pass(x, gone[i]);
            Check.due("the asking", x.ask(6, 6, 1), 10);
            Check.bedDue(x, 0, want[i]);
            Check.due("hours lost", x.count(7), lost[i]);
            Check.due("hours slept", x.lodgerOf(0, 4), gone[i]);
        }
        SevenAsks y = fullHouse("000000000000");
        Check.pass(y, 11);
        Check.due("the last hour of the night", y.ask(6, 11, 1), 10);
        Check.bedDue(y, 0, "000000000006");
        Check.due("hours lost", y.count(7), 1);
    }

    /** "and those of each lodger put out become 1 more (once for each lodger)". */
    private static void putOutOnceForEachLodger() {
        SevenAsks x = fullHouse("010120201010");
        Check.due("the mask", x.ifPutOut(6, 0, 9), 7);
        Check.due("the asking", x.ask(6, 0, 9), 10);
        for (int lodger = 0; lodger < 3; lodger++) {
            Check.due("refusals of lodger " + lodger, x.lodgerOf(lodger, 1), 1);
            Check.due("lodger " + lodger + " was put out", x.lodgerOf(lodger, 5), 1);
        }
        Check.due("refusals of lodger 7", x.lodgerOf(7, 1), 0);
        Check.due("put out", x.count(6), 3);
        Check.due("hours lost", x.count(7), 9);
        Check.due("refusals of the lodger who asked", x.lodgerOf(6, 1), 0);
        Check.bedDue(x, 0, "666666666010");
    }

    /** "at most 7": of a lodger put out who has 6, and of one who has 7. */
    private static void refusalsOfThosePutOutAreAtMostSeven() {
        for (int refusals = 0; refusals <= 7; refusals++) {
            SevenAsks x = fullInHour(6);
            Check.refuse(x, 5, refusals);
            Check.refuse(x, 0, 7);
            Check.due("the asking", x.ask(0, 6, 1), 10);
            Check.due("put out, with " + refusals, x.lodgerOf(5, 1), Math.min(7, refusals + 1));
            Check.due("how often put out", x.lodgerOf(5, 5), 1);
        }
    }

    /** "A refusal for the reason 3 or 4 makes the lodger's refusals 1 more, at most 7". */
    private static void refusalForThreeOrFourIsOneMore() {
        SevenAsks x = fullInHour(6);
        for (int times = 1; times <= 7; times++) {
            boolean four = times % 2 == 0;
            x.set(four ? 0 : 3);
            Check.due("refused", x.ask(2, 6, 1), four ? 4 : 3);
            Check.due("refusals", x.lodgerOf(2, 1), times);
        }
        Check.due("another's refusals", x.lodgerOf(3, 1), 0);
        Check.due("refused for 3", x.refused(3), 4);
        Check.due("refused for 4", x.refused(4), 3);
    }

    /** "one for the reason 1 or 2 does not": at 0 refusals, at 6 and at 7. */
    private static void refusalForOneOrTwoIsNone() {
        int[] refusals = {0, 6, 7};
        for (int before : refusals) {
            SevenAsks x = new SevenAsks();
            x.ask(9, 1, 1);
            Check.refuse(x, 9, before);
            x.pass();
            Check.due("reason 1", x.ask(9, 0, 1), 1);
            Check.due("reason 2", x.ask(9, 1, 1), 2);
            Check.due("refusals", x.lodgerOf(9, 1), before);
            Check.due("refused", x.count(5), before + 2);
        }
    }

    /** "(So the eighth asking is never refused for want of a bed.)": in a full house, for any hours. */
    private static void neverRefusedForWantOfABed() {
        for (int first = 0; first < 12; first++) {
            for (int hours = 1; hours <= 9 && first + hours <= 12; hours++) {
                SevenAsks x = fullHouse("012345012345");
                Check.due("hours " + first + ", " + hours, x.ask(6, first, hours), 10);
                Check.due("put out", x.count(6), Math.min(6, hours));
                Check.due("hours lost", x.count(7), hours);
                Check.due("all are lent", x.count(2), 48);
                Check.due("the lodger's", x.lodgerOf(6, 3), hours);
            }
        }
    }

    /** "first: 0 to 11", "hours: 1 to 9, so that the last one is at most 11". */
    private static void firstAndHoursInRange() {
        for (int first = -2; first <= 13; first++) {
            for (int hours = -1; hours <= 14; hours++) {
                int from = first;
                int many = hours;
                boolean right = first >= 0 && first <= 11 && hours >= 1 && hours <= 9 && first + hours - 1 <= 11;
                String call = "ask(9, " + first + ", " + hours + ")";
                if (right) {
                    Check.due(call, new SevenAsks().ask(9, first, hours), 10);
                } else {
                    Check.throwsOnly(SevenAsks::new, call, IllegalArgumentException.class, x -> x.ask(9, from, many));
                }
            }
        }
        int[] far = {Integer.MIN_VALUE, Integer.MIN_VALUE + 1, Integer.MAX_VALUE - 1, Integer.MAX_VALUE};
        for (int number : far) {
            Check.throwsOnly(Check::busy, "ask", IllegalArgumentException.class, x -> x.ask(9, number, 1));
            Check.throwsOnly(Check::busy, "ask", IllegalArgumentException.class, x -> x.ask(9, 11, number));
            Check.throwsOnly(Check::busy, "ask", IllegalArgumentException.class, x -> x.ask(9, number, number));
            Check.throwsOnly(Check::busy, "ask", IndexOutOfBoundsException.class, x -> x.ask(number, number, number));
        }
    }

    /** "Returns 10 and the bed, together; if it is refused the reason." */
    private static void returnsTenAndTheBed() {
        SevenAsks x = new SevenAsks();
        for (int bed = 0; bed < 4; bed++) {
            Check.due("bed " + bed, x.ask(5 + bed, 0, 1), 10 + bed);
            Check.due("askings done", x.count(4), bed + 1);
            Check.due("the holder", x.at(bed, 0), 5 + bed);
        }
        Check.due("refused", x.ask(9, 0, 1), 4);
        Check.due("askings done", x.count(4), 4);
        Check.due("askings refused", x.count(5), 1);
    }

    /** "Undoable, also if it is refused": for each reason, and as an eighth asking. */
    private static void undoableAlsoIfRefused() {
        Check.undoable(Check::busy, "ask, reason 1", x -> Check.due("1", x.ask(9, 1, 1), 1));
        Check.undoable(Check::busy, "ask, reason 2", x -> Check.due("2", x.ask(3, 4, 1), 2));
        Check.undoable(Check::busy, "ask, reason 3", x -> Check.due("3", x.ask(1, 4, 1), 3));
        Check.undoable(() -> fullInHour(6), "ask, reason 4", x -> Check.due("4", x.ask(9, 6, 1), 4));
        Check.undoable(Check::busy, "an eighth asking", x -> Check.due("12", x.ask(0, 2, 9), 12));
        Check.undoable(() -> fullHouse("001100220033"), "one that puts out",
                x -> Check.due("10", x.ask(6, 1, 8), 10));
        Check.undoable(SevenAsks::new, "the first call", x -> Check.due("10", x.ask(9, 0, 1), 10));
    }
}
