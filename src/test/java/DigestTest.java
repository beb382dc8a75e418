/** Promise 25. */
public final class DigestTest {
    private static long hash;

    public static void main(String[] args) {
        everyShare();
        lateStates();
        changesShow();
        Check.end();
    }

    private static void add(long value) {
        hash = 31 * hash + value;
    }

    /** The hash as the document tells it, from what the other calls answer. */
    private static long told(SevenAsks x, boolean slotZero, boolean slotOne, String buffer) {
        hash = 3659;
        for (int what = 0; what <= 11; what++) {
            add(x.count(what));
        }
        for (int reason = 1; reason <= 4; reason++) {
            add(x.refused(reason));
        }
        for (int bed = 0; bed < 4; bed++) {
            for (int hour = 0; hour < 12; hour++) {
                add(x.at(bed, hour));
            }
        }
        for (int lodger = 0; lodger < 10; lodger++) {
            addLodger(x, lodger);
        }
        add(x.fewestBeds(0));
        add(x.fewestBeds(1));
        add(x.poorest());
        add(Double.doubleToLongBits(x.fullness()));
        add(slotZero ? 1 : 0);
        add(slotOne ? 1 : 0);
        add(buffer.length());
        for (int i = 0; i < buffer.length(); i++) {
            add(buffer.charAt(i));
        }
        return hash;
    }

    private static void addLodger(SevenAsks x, int lodger) {
        for (int what = 0; what <= 6; what++) {
            add(x.lodgerOf(lodger, what));
        }
        add(x.longest(lodger, 0));
        add(x.longest(lodger, 6));
        add(x.ifAsked(lodger, 8, 3));
        add(x.ifPutOut(lodger, 8, 3));
    }

    /** Each of the 49 shares that fullness can be, for the sake of its bits. */
    private static void everyShare() {
        for (int lent = 0; lent <= 48; lent++) {
            SevenAsks x = new SevenAsks();
            x.set(0);
            for (int i = 0; i < lent; i++) {
                Check.due("one hour more", x.ask(i / 12, i % 12, 1), 10 + i / 12);
            }
            Check.due("lent hours", x.count(2), lent);
            Check.due(lent + " hours", x.digest(), told(x, false, false, ""));
        }
    }

    private static SevenAsks late() {
        SevenAsks x = new SevenAsks();
        Check.run(x, "3@i4;4@i4;5@g3;6@h4;h;h;9@c3");
        x.keep(1);
        Check.append(x, "4@~");
        return x;
    }

    private static SevenAsks lateWithAnEighthAsking() {
        SevenAsks x = late();
        Check.refuse(x, 0, 7);
        Check.due("an eighth asking", x.ifPutOut(0, 8, 3), 1 << 5);
        return x;
    }

    /** A new object for each telling, as one takes some 180 of the 512 calls. */
    private static void lateStates() {
        SevenAsks x = late();
        Check.due("a slot and a buffer", x.digest(), told(x, false, true, "4@~"));
        x = lateWithAnEighthAsking();
        Check.due("with an eighth asking", x.digest(), told(x, false, true, "4@~"));
        x = lateWithAnEighthAsking();
        x.need(2, 9);
        x.ask(2, 11, 1);
        Check.due("a bed in the hour behind the asking", x.ifAsked(2, 8, 3), 4);
        Check.due("with a bed in the last hour", x.digest(), told(x, false, true, "4@~"));
        x = lateWithAnEighthAsking();
        x.ask(0, 8, 3);
        x.keep(0);
        x.clearBuffer();
        Check.due("behind it", x.digest(), told(x, true, true, ""));
        SevenAsks last = x;
        Check.unchanged(x, "digest", () -> last.digest());
    }

    private static void changesShow() {
        SevenAsks x = new SevenAsks();
        long before = x.digest();
        Check.append(x, "!");
        Check.holds("a sign in the buffer shows", x.digest() != before);
        x.clearBuffer();
        Check.due("as before", x.digest(), before);
        x.keep(0);
        Check.holds("a snapshot shows", x.digest() != before);
    }
}
