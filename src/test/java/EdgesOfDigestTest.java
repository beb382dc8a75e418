import java.math.BigInteger;
import java.util.ArrayList;
import java.util.List;

/** A test for each sentence of promise 25 that names a boundary case. */
public final class EdgesOfDigestTest {
    public static void main(String[] args) {
        startsAt3659();
        longArithmeticWithOverflow();
        longestFromTheHoursZeroAndSix();
        askedFromTheHourEightForThreeHours();
        oneForAFilledSlot();
        lengthOfTheBufferAndItsCodes();
        bitsOfFullness();
        eachValueShows();
        nothingIsChanged();
        Check.end();
    }

    /** The values in the document's order, as the other calls tell them. */
    private static List<Long> values(SevenAsks x, String slots, String buffer) {
        List<Long> values = new ArrayList<>();
        for (int what = 0; what <= 11; what++) {
            values.add((long) x.count(what));
        }
        for (int reason = 1; reason <= 4; reason++) {
            values.add((long) x.refused(reason));
        }
        for (int bed = 0; bed <= 3; bed++) {
            for (int hour = 0; hour <= 11; hour++) {
                values.add((long) x.at(bed, hour));
            }
        }
        for (int lodger = 0; lodger <= 9; lodger++) {
            for (int what = 0; what <= 6; what++) {
                values.add((long) x.lodgerOf(lodger, what));
            }
            values.add((long) x.longest(lodger, 0));
            values.add((long) x.longest(lodger, 6));
            values.add((long) x.ifAsked(lodger, 8, 3));
            values.add((long) x.ifPutOut(lodger, 8, 3));
        }
        values.add((long) x.fewestBeds(0));
        values.add((long) x.fewestBeds(1));
        values.add((long) x.poorest());
        values.add(Double.doubleToLongBits(x.fullness()));
        values.add((long) slots.charAt(0) - '0');
        values.add((long) slots.charAt(1) - '0');
        values.add((long) buffer.length());
        for (int i = 0; i < buffer.length(); i++) {
            values.add((long) buffer.charAt(i));
        }
        return values;
    }

    /** Without overflow first, and cut to 64 bits at the end. */
    private static long hashOf(List<Long> values) {
        BigInteger hash = BigInteger.valueOf(3659);
        for (long value : values) {
            hash = hash.multiply(BigInteger.valueOf(31)).add(BigInteger.valueOf(value));
        }
        return hash.longValue();
    }

    private static void digestDue(String what, SevenAsks x, String slots, String buffer) {
        Check.due(what, x.digest(), hashOf(values(x, slots, buffer)));
    }

    /** "The hash starts at 3659": the values of a new object, written out. */
    private static void startsAt3659() {
        List<Long> values = new ArrayList<>();
        for (int i = 0; i < 16; i++) {
            values.add(i == 9 ? 3L : 0L);
        }
        for (int i = 0; i < 48; i++) {
            values.add(-1L);
        }
        for (int lodger = 0; lodger < 10; lodger++) {
            long[] told = {lodger, 0, 0, 0, 0, 0, 0, 9, 6, lodger < 3 ? 3 : 10, 0};
            for (long value : told) {
                values.add(value);
            }
        }
        long[] last = {0, 0, 9, 0, 0, 0, 0};
        for (long value : last) {
            values.add(value);
        }
        Check.due("a new object", new SevenAsks().digest(), hashOf(values));
        digestDue("a new object", new SevenAsks(), "00", "");
    }

    /** "in long arithmetic with overflow": states of all kinds, negative values among them. */
    private static void longArithmeticWithOverflow() {
        digestDue("a busy object", Check.busy(), "11", "7@c3");
        SevenAsks x = Check.busy();
        x.ask(0, 2, 9);
        x.undo();
        x.pass();
        digestDue("behind an undo", x, "11", "7@c3");
        SevenAsks y = Check.busy();
        Check.pass(y, 10);
        digestDue("the next night", y, "11", "7@c3");
        SevenAsks z = new SevenAsks();
        Check.pass(z, 300);
        digestDue("many nights", z, "00", "");
    }

    /** "longest from the hours 0 and 6": where the hours beside them tell another number. */
    private static void longestFromTheHoursZeroAndSix() {
        for (int hour = 0; hour <= 11; hour++) {
            SevenAsks x = new SevenAsks();
            x.ask(9, hour, 1);
            Check.due("up to hour " + hour, x.longest(9, 0), Math.min(9, hour));
            Check.due("from 6 up to hour " + hour, x.longest(9, 6), hour < 6 ? 6 : hour - 6);
            digestDue("one's own bed in hour " + hour, x, "00", "");
            SevenAsks y = new SevenAsks();
            Check.pass(y, hour);
            digestDue(hour + " hours went by", y, "00", "");
        }
    }

    /** "ifAsked and ifPutOut from the hour 8 for 3 hours": where an hour more or less tells another answer. */
    private static void askedFromTheHourEightForThreeHours() {
        for (int hour = 6; hour <= 11; hour++) {
            SevenAsks x = new SevenAsks();
            for (int lodger = 4; lodger <= 7; lodger++) {
                x.ask(lodger, hour, 1);
            }
            boolean touched = hour >= 8 && hour <= 10;
            Check.due("a bed in hour " + hour, x.ifAsked(4, 8, 3), touched ? 2 : 10);
            Check.due("no bed in hour " + hour, x.ifAsked(9, 8, 3), touched ? 4 : 10);
            digestDue("hour " + hour, x, "00", "");
            x.set(9);
            Check.run(x, "0@a1;0@a1;0@a1;0@a1;0@a1;0@a1;0@a1");
            Check.due("put out in hour " + hour, x.ifPutOut(0, 8, 3), touched ? 16 : 0);
            digestDue("hour " + hour + ", an eighth asking", x, "00", "");
        }
    }

    /** "for each slot 1 if it has a snapshot, otherwise 0". */
    private static void oneForAFilledSlot() {
        for (int filled = 0; filled < 4; filled++) {
            SevenAsks x = new SevenAsks();
            for (int slot = 0; slot < 2; slot++) {
                if ((filled >> slot & 1) == 1) {
                    x.keep(slot);
                    x.keep(slot);
                }
            }
            digestDue("slots " + filled, x, "" + (filled & 1) + (filled >> 1), "");
        }
    }

    /** "the length of the buffer and each of its character codes": none, one, sixty, cleared, run. */
    private static void lengthOfTheBufferAndItsCodes() {
        String[] buffers = {"", "!", "~", "!~", "9@a1;h", "~".repeat(60), "!\"#$%&'()*+,-./:;<=>?@[]^_`{|}~"};
        for (String buffer : buffers) {
            SevenAsks x = new SevenAsks();
            Check.append(x, buffer);
            digestDue("the buffer " + buffer, x, "00", buffer);
        }
        SevenAsks x = new SevenAsks();
        Check.append(x, "~".repeat(60));
        x.clearBuffer();
        digestDue("cleared", x, "00", "");
        Check.append(x, "h");
        digestDue("one again", x, "00", "h");
        SevenAsks y = new SevenAsks();
        Check.run(y, "9@a1;h");
        digestDue("behind a run", y, "00", "");
    }

    /** "the bits of fullness (as Double.doubleToLongBits)": each of the 49 shares. */
    private static void bitsOfFullness() {
        for (int lent = 0; lent <= 48; lent++) {
            SevenAsks x = new SevenAsks();
            x.set(0);
            for (int place = 0; place < lent; place++) {
                x.ask(place % 4 * 2 + place / 24, place / 4, 1);
            }
            Check.due("lent", x.count(2), lent);
            digestDue(lent + " hours", x, "00", "");
        }
    }

    /** "a hash of the whole state": each call that changes something the hash is made of shows. */
    private static void eachValueShows() {
        long before = Check.busy().digest();
        String[] call = {"ask", "giveBack", "favour", "need", "pass", "set", "append", "clearBuffer", "run", "undo"};
        long[] behind = new long[call.length];
        SevenAsks[] x = new SevenAsks[call.length];
        for (int i = 0; i < call.length; i++) {
            x[i] = Check.busy();
        }
        x[0].ask(8, 8, 1);
        x[1].giveBack(3, 3);
        x[2].favour(8);
        x[3].need(8, 1);
        x[4].pass();
        x[5].set(0);
        x[6].append('!');
        x[7].clearBuffer();
        x[8].run();
        x[9].undo();
        for (int i = 0; i < call.length; i++) {
            behind[i] = x[i].digest();
            Check.holds(call[i] + " shows", behind[i] != before);
            for (int j = 0; j < i; j++) {
                Check.holds(call[i] + " is not " + call[j], behind[i] != behind[j]);
            }
        }
    }

    /** "nothing is changed", and the next digest is the same. */
    private static void nothingIsChanged() {
        SevenAsks x = Check.busy();
        Check.due("the same again", x.digest(), x.digest());
        Check.changesNothing(Check::busy, "digest", y -> y.digest());
    }
}
