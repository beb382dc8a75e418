import java.util.Arrays;

/**
 * Almshouse beds that are lent by the hour under a rule of seven refusals.
 *
 * <p>The methods of the face test every argument and throw; the classes inside hold the state and
 * the rules, and throw nothing.
 */
public final class SevenAsks {
    public static final int NONE = -1;

    private static final int LODGERS = 10;
    private static final int BEDS = 4;
    private static final int HOURS = 12;
    private static final int MOST_ASKED_HOURS = 9;
    private static final int MOST_NEED = 9;
    private static final int MOST_REFUSALS = 7;
    private static final int MOST_FAVOURS = 3;
    private static final int MOST_NIGHTS = 999;
    private static final int FIRST_SETTING = 3;
    private static final int SLOTS = 2;
    private static final int SAVED_STATES = 6;
    private static final int BUFFER_SIZE = 60;

    /** Added to the bed in the answer to an asking that is not refused. */
    private static final int GRANTED = 10;

    private static final int HOUR_WENT_BY = 1;
    private static final int HAS_A_BED = 2;
    private static final int TOO_LITTLE_NEED = 3;
    private static final int NO_FREE_BED = 4;
    private static final int REASONS = 4;

    // The columns of the lodgers are numbered as lodgerOf() tells them; 3 is told from the night.
    private static final int NEED = 0;
    private static final int REFUSALS = 1;
    private static final int FAVOURS = 2;
    private static final int HOURS_LENT = 3;
    private static final int HOURS_SLEPT = 4;
    private static final int TIMES_PUT_OUT = 5;
    private static final int EIGHTH_ASKINGS = 6;
    private static final int LODGER_NUMBERS = 7;

    // The accounts are numbered as count() tells them; some are told from elsewhere.
    private static final int GONE_HOURS = 0;
    private static final int ENDED_NIGHTS = 1;
    private static final int LENT_HOURS = 2;
    private static final int SLEPT_HOURS = 3;
    private static final int DONE_ASKINGS = 4;
    private static final int REFUSED_ASKINGS = 5;
    private static final int PUT_OUT_LODGERS = 6;
    private static final int LOST_HOURS = 7;
    private static final int USED_FAVOURS = 8;
    private static final int SETTING = 9;
    private static final int REFUSED_ELSE = 10;
    private static final int HELD_STATES = 11;
    private static final int ACCOUNTS = 12;

    private static final long DIGEST_START = 3659;
    private static final int DIGEST_SECOND_HOUR = 6;
    private static final int DIGEST_HOUR = 8;
    private static final int DIGEST_HOURS = 3;

    private final House house = new House();
    private final Shelf slots = new Shelf(SLOTS);
    private final Shelf saved = new Shelf(SAVED_STATES);
    private final BedLaying laying = new BedLaying();
    private final AskingText text = new AskingText();
    private int savedCount;
    private int nextSaved;

    public SevenAsks() {
    }

    // ---- asking

    public int ask(int lodger, int first, int hours)
            throws IndexOutOfBoundsException, IllegalArgumentException {
        checkAsking(lodger, first, hours);
        saveState();
        return house.takeAsking(lodger, first, hours);
    }

    public int giveBack(int lodger, int hour)
            throws IndexOutOfBoundsException, IllegalArgumentException {
        checkLodger(lodger);
        checkHour(hour);
        saveState();
        return house.takeBack(lodger, hour);
    }

    public int favour(int lodger) throws IndexOutOfBoundsException {
        checkLodger(lodger);
        saveState();
        return house.giveFavour(lodger);
    }

    public int need(int lodger, int need)
            throws IndexOutOfBoundsException, IllegalArgumentException {
        checkLodger(lodger);
        checkNeed(need);
        saveState();
        return house.changeNeed(lodger, need);
    }

    public int pass() throws IllegalStateException {
        if (!house.canLetHourGo()) {
            throw new IllegalStateException("999 nights ended");
        }
        saveState();
        return house.letHourGo();
    }

    public int set(int value) throws IllegalArgumentException {
        checkNeed(value);
        saveState();
        return house.changeSetting(value);
    }

    // ---- texts, snapshots

    public int append(int code) throws IllegalArgumentException, IllegalStateException {
        if (code < 33 || code > 126) {
            throw new IllegalArgumentException("the code is not 33 to 126");
        }
        if (text.isFull()) {
            throw new IllegalStateException("the buffer is full");
        }
        return text.addSign(code);
    }

    public int clearBuffer() {
        return text.empty();
    }

    public int firstError() {
        return text.errorPlace();
    }

    public int run() throws IllegalArgumentException {
        if (!text.tellsAskings()) {
            throw new IllegalArgumentException("the buffer does not tell askings");
        }
        saveState();
        int done = doText();
        text.empty();
        return done;
    }

    public int keep(int slot) throws IllegalArgumentException {
        checkSlot(slot);
        slots.store(slot, house);
        return house.account(LENT_HOURS);
    }

    public int goBack(int slot) throws IllegalArgumentException, IllegalStateException {
        checkSlot(slot);
        if (!slots.isFilled(slot)) {
            throw new IllegalStateException("no snapshot is in the slot");
        }
        saveState();
        slots.restore(slot, house);
        return house.account(LENT_HOURS);
    }

    public int undo() throws IllegalStateException {
        if (savedCount == 0) {
            throw new IllegalStateException("no state is saved");
        }
        nextSaved = nextSaved == 0 ? SAVED_STATES - 1 : nextSaved - 1;
        savedCount--;
        saved.restore(nextSaved, house);
        return savedCount;
    }

    // ---- looks; nothing is changed

    public int at(int bed, int hour) throws IndexOutOfBoundsException, IllegalArgumentException {
        if (bed < 0 || bed >= BEDS) {
            throw new IndexOutOfBoundsException("there is no such bed");
        }
        checkHour(hour);
        return house.night.holder(bed, hour);
    }

    public int lodgerOf(int lodger, int what)
            throws IndexOutOfBoundsException, IllegalArgumentException {
        checkLodger(lodger);
        checkRange(what, 0, LODGER_NUMBERS - 1);
        return house.lodgerNumber(lodger, what);
    }

    public int count(int what) throws IllegalArgumentException {
        checkRange(what, 0, ACCOUNTS - 1);
        return accountOf(what);
    }

    public int refused(int reason) throws IllegalArgumentException {
        checkRange(reason, 1, REASONS);
        return house.refusedFor(reason);
    }

    // ---- what would be; nothing is changed

    public int ifAsked(int lodger, int first, int hours)
            throws IndexOutOfBoundsException, IllegalArgumentException {
        checkAsking(lodger, first, hours);
        return house.answerTo(lodger, first, hours);
    }

    public int ifPutOut(int lodger, int first, int hours)
            throws IndexOutOfBoundsException, IllegalArgumentException {
        checkAsking(lodger, first, hours);
        return house.wouldBePutOut(lodger, first, hours);
    }

    public int fewestBeds(int what) throws IllegalArgumentException {
        checkRange(what, 0, 1);
        return what == 0 ? laying.bedsFor(house.night) : house.night.mostLentBeds();
    }

    public int longest(int lodger, int first)
            throws IndexOutOfBoundsException, IllegalArgumentException {
        checkLodger(lodger);
        checkHour(first);
        return house.night.longestFor(lodger, first);
    }

    public int poorest() {
        return house.poorestLodger();
    }

    public double fullness() {
        return house.shareLent();
    }

    public long digest() {
        long hash = withAccounts(DIGEST_START);
        hash = withBeds(hash);
        hash = withLodgers(hash);
        hash = mixed(hash, laying.bedsFor(house.night));
        hash = mixed(hash, house.night.mostLentBeds());
        hash = mixed(hash, house.poorestLodger());
        hash = mixed(hash, bitsOf(house.shareLent()));
        for (int slot = 0; slot < SLOTS; slot++) {
            hash = mixed(hash, slots.isFilled(slot) ? 1 : 0);
        }
        return withText(hash);
    }

    // ---- what the digest is made of

    private static long mixed(long hash, long value) {
        return 31 * hash + value;
    }

    private long withAccounts(long start) {
        long hash = start;
        for (int what = 0; what < ACCOUNTS; what++) {
            hash = mixed(hash, accountOf(what));
        }
        for (int reason = 1; reason <= REASONS; reason++) {
            hash = mixed(hash, house.refusedFor(reason));
        }
        return hash;
    }

    private long withBeds(long start) {
        long hash = start;
        for (int bed = 0; bed < BEDS; bed++) {
            for (int hour = 0; hour < HOURS; hour++) {
                hash = mixed(hash, house.night.holder(bed, hour));
            }
        }
        return hash;
    }

    private long withLodgers(long start) {
        long hash = start;
        for (int lodger = 0; lodger < LODGERS; lodger++) {
            for (int what = 0; what < LODGER_NUMBERS; what++) {
                hash = mixed(hash, house.lodgerNumber(lodger, what));
            }
            hash = mixed(hash, house.night.longestFor(lodger, 0));
            hash = mixed(hash, house.night.longestFor(lodger, DIGEST_SECOND_HOUR));
            hash = mixed(hash, house.answerTo(lodger, DIGEST_HOUR, DIGEST_HOURS));
            hash = mixed(hash, house.wouldBePutOut(lodger, DIGEST_HOUR, DIGEST_HOURS));
        }
        return hash;
    }

    private long withText(long start) {
        long hash = mixed(start, text.size());
        for (int place = 0; place < text.size(); place++) {
            hash = mixed(hash, text.sign(place));
        }
        return hash;
    }

    /**
     * Tells the bits of a share from 0 to 1 as Double.doubleToLongBits does, which the language
     * of the program leaves out. Doubling loses no bit, so the answer is exact.
     */
    private static long bitsOf(double share) {
        if (!(share > 0.0)) {
            return 0;
        }
        double scaled = share;
        long exponent = 1023;
        for (int step = 0; step < 1022 && scaled < 1.0; step++) {
            scaled = scaled * 2.0;
            exponent--;
        }
        long unit = 1L << 52;
        return (exponent << 52) + ((long) (scaled * (double) unit) - unit);
    }

    // ---- tests of arguments

    private static void checkLodger(int lodger) {
        if (lodger < 0 || lodger >= LODGERS) {
            throw new IndexOutOfBoundsException("there is no such lodger");
        }
    }

    private static void checkHour(int hour) {
        checkRange(hour, 0, HOURS - 1);
    }

    private static void checkNeed(int need) {
        checkRange(need, 0, MOST_NEED);
    }

    private static void checkSlot(int slot) {
        checkRange(slot, 0, SLOTS - 1);
    }

    private static void checkRange(int value, int least, int most) {
        if (value < least || value > most) {
            throw new IllegalArgumentException("a number is out of range");
        }
    }

    private static void checkAsking(int lodger, int first, int hours) {
        checkLodger(lodger);
        if (!isWithinNight(first, hours)) {
            throw new IllegalArgumentException("the hours are out of range");
        }
    }

    private static boolean isWithinNight(int first, int hours) {
        return first >= 0 && first < HOURS && hours >= 1 && hours <= MOST_ASKED_HOURS
                && first + hours <= HOURS;
    }

    // ---- states, and what the buffer tells

    private int accountOf(int what) {
        return what == HELD_STATES ? savedCount : house.account(what);
    }

    private void saveState() {
        saved.store(nextSaved, house);
        nextSaved = nextSaved + 1 < SAVED_STATES ? nextSaved + 1 : 0;
        if (savedCount < SAVED_STATES) {
            savedCount++;
        }
    }

    private int doText() {
        int done = 0;
        int place = 0;
        while (place < text.size() && canDo(place)) {
            if (text.tellsHour(place)) {
                house.letHourGo();
                done++;
                place += AskingText.HOUR_STEP;
            } else {
                int first = text.firstHour(place);
                int answer = house.takeAsking(text.lodger(place), first, text.hours(place));
                done += answer >= GRANTED ? 1 : 0;
                place += AskingText.ASKING_STEP;
            }
        }
        return done;
    }

    private boolean canDo(int place) {
        if (text.tellsHour(place)) {
            return house.canLetHourGo();
        }
        return isWithinNight(text.firstHour(place), text.hours(place));
    }

    /** Rows of numbers; every index is tested here, and outside of them stands NONE. */
    private static final class Grid {
        private final int rows;
        private final int columns;
        private final int[] numbers;

        Grid(int rows, int columns) {
            this.rows = Math.max(0, rows);
            this.columns = Math.max(0, columns);
            this.numbers = new int[this.rows * this.columns];
        }

        int get(int row, int column) {
            if (row < 0 || row >= rows || column < 0 || column >= columns) {
                return NONE;
            }
            return numbers[row * columns + column];
        }

        void put(int row, int column, int number) {
            if (row < 0 || row >= rows || column < 0 || column >= columns) {
                return;
            }
            numbers[row * columns + column] = number;
        }

        void raise(int row, int column, int by) {
            put(row, column, get(row, column) + by);
        }

        void fill(int number) {
            Arrays.fill(numbers, number);
        }

        void copyFrom(Grid other) {
            if (other.numbers.length == numbers.length) {
                System.arraycopy(other.numbers, 0, numbers, 0, numbers.length);
            }
        }
    }

    /** One night: who has which bed in which hour, and how many hours went by. */
    private static final class Night {
        private final Grid holders = new Grid(BEDS, HOURS);
        private int gone;

        Night() {
            holders.fill(NONE);
        }

        void copyFrom(Night other) {
            holders.copyFrom(other.holders);
            gone = other.gone;
        }

        int goneHours() {
            return gone;
        }

        boolean wentBy(int hour) {
            return hour < gone;
        }

        void advance() {
            gone++;
            if (gone >= HOURS) {
                holders.fill(NONE);
                gone = 0;
            }
        }

        int holder(int bed, int hour) {
            return holders.get(bed, hour);
        }

        void lend(int lodger, int bed, int first, int hours) {
            for (int hour = first; hour < first + hours; hour++) {
                holders.put(bed, hour, lodger);
            }
        }

        int lentBeds(int hour) {
            int lent = 0;
            for (int bed = 0; bed < BEDS; bed++) {
                lent += holders.get(bed, hour) != NONE ? 1 : 0;
            }
            return lent;
        }

        int mostLentBeds() {
            int most = 0;
            for (int hour = 0; hour < HOURS; hour++) {
                most = Math.max(most, lentBeds(hour));
            }
            return most;
        }

        int lentHours() {
            int lent = 0;
            for (int hour = 0; hour < HOURS; hour++) {
                lent += lentBeds(hour);
            }
            return lent;
        }

        int bedOf(int lodger, int hour) {
            for (int bed = 0; bed < BEDS; bed++) {
                if (holders.get(bed, hour) == lodger) {
                    return bed;
                }
            }
            return NONE;
        }

        int hoursWithBed(int lodger, int first, int hours) {
            int with = 0;
            for (int hour = first; hour < first + hours; hour++) {
                with += bedOf(lodger, hour) != NONE ? 1 : 0;
            }
            return with;
        }

        int lentHoursIn(int bed, int first, int hours) {
            int lent = 0;
            for (int hour = first; hour < first + hours; hour++) {
                lent += holders.get(bed, hour) != NONE ? 1 : 0;
            }
            return lent;
        }

        /** Of several the lowest: so it is the lowest free one, too, if any is free throughout. */
        int leastLentBed(int first, int hours) {
            int least = 0;
            for (int bed = 1; bed < BEDS; bed++) {
                if (lentHoursIn(bed, first, hours) < lentHoursIn(least, first, hours)) {
                    least = bed;
                }
            }
            return least;
        }

        int holdersMask(int bed, int first, int hours) {
            int mask = 0;
            for (int hour = first; hour < first + hours; hour++) {
                int lodger = holders.get(bed, hour);
                mask |= lodger == NONE ? 0 : 1 << lodger;
            }
            return mask;
        }

        boolean startsPiece(int bed, int hour) {
            int lodger = holders.get(bed, hour);
            return lodger != NONE && lodger != holders.get(bed, hour - 1);
        }

        /** The first hour behind the given one in which the bed has another holder. */
        int pieceEnd(int bed, int hour) {
            int end = hour + 1;
            while (end < HOURS && holders.get(bed, end) == holders.get(bed, hour)) {
                end++;
            }
            return end;
        }

        int freePieceFrom(int bed, int hour) {
            int hours = pieceEnd(bed, hour) - hour;
            lend(NONE, bed, hour, hours);
            return hours;
        }

        /**
         * Frees all pieces that an hour of the asking belongs to, but for what went by, and tells
         * how many hours were lent. Only the outermost pieces reach beyond the asking.
         */
        int freePiecesIn(int bed, int first, int hours) {
            int start = first;
            while (start > gone && holders.get(bed, start - 1) == holders.get(bed, first)) {
                start--;
            }
            int end = pieceEnd(bed, first + hours - 1);
            int lost = lentHoursIn(bed, start, end - start);
            lend(NONE, bed, start, end - start);
            return lost;
        }

        int longestFor(int lodger, int first) {
            int most = 0;
            while (most < MOST_ASKED_HOURS && isOpenTo(lodger, first, most + 1)) {
                most++;
            }
            return most;
        }

        private boolean isOpenTo(int lodger, int first, int hours) {
            if (!isWithinNight(first, hours) || wentBy(first)) {
                return false;
            }
            return hoursWithBed(lodger, first, hours) == 0
                    && lentHoursIn(leastLentBed(first, hours), first, hours) == 0;
        }
    }

    /** Lays all pieces of a night anew; its row is used again at each telling. */
    private static final class BedLaying {
        private final int[] busyUntil = new int[BEDS];

        int bedsFor(Night night) {
            Arrays.fill(busyUntil, 0);
            int used = 0;
            for (int hour = 0; hour < HOURS; hour++) {
                for (int bed = 0; bed < BEDS; bed++) {
                    if (night.startsPiece(bed, hour)) {
                        used = Math.max(used, lay(hour, night.pieceEnd(bed, hour)) + 1);
                    }
                }
            }
            return used;
        }

        private int lay(int first, int end) {
            for (int bed = 0; bed < busyUntil.length; bed++) {
                if (busyUntil[bed] <= first) {
                    busyUntil[bed] = end;
                    return bed;
                }
            }
            return NONE;
        }
    }

    /** All that a snapshot holds: the night, the lodgers, the setting and the accounts. */
    private static final class House {
        private final Night night = new Night();
        private final Grid lodgers = new Grid(LODGERS, LODGER_NUMBERS);
        private final Grid accounts = new Grid(1, ACCOUNTS);
        private final Grid reasons = new Grid(1, REASONS + 1);

        House() {
            for (int lodger = 0; lodger < LODGERS; lodger++) {
                lodgers.put(lodger, NEED, lodger);
            }
            accounts.put(0, SETTING, FIRST_SETTING);
        }

        void copyFrom(House other) {
            night.copyFrom(other.night);
            lodgers.copyFrom(other.lodgers);
            accounts.copyFrom(other.accounts);
            reasons.copyFrom(other.reasons);
        }

        int account(int what) {
            if (what == GONE_HOURS) {
                return night.goneHours();
            }
            return what == LENT_HOURS ? night.lentHours() : accounts.get(0, what);
        }

        int refusedFor(int reason) {
            return reasons.get(0, reason);
        }

        int lodgerNumber(int lodger, int what) {
            if (what == HOURS_LENT) {
                return night.hoursWithBed(lodger, 0, HOURS);
            }
            return lodgers.get(lodger, what);
        }

        double shareLent() {
            return (double) night.lentHours() / (double) (BEDS * HOURS);
        }

        int poorestLodger() {
            int poorest = 0;
            for (int lodger = 1; lodger < LODGERS; lodger++) {
                if (isPoorer(lodger, poorest)) {
                    poorest = lodger;
                }
            }
            return poorest;
        }

        private boolean isPoorer(int lodger, int other) {
            int more = lodgers.get(lodger, REFUSALS) - lodgers.get(other, REFUSALS);
            return more > 0 || more == 0 && lodgers.get(lodger, NEED) > lodgers.get(other, NEED);
        }

        // ---- asking

        /** The reason of the refusal, or GRANTED and the bed, together. */
        int answerTo(int lodger, int first, int hours) {
            if (night.wentBy(first)) {
                return HOUR_WENT_BY;
            }
            if (night.hoursWithBed(lodger, first, hours) > 0) {
                return HAS_A_BED;
            }
            boolean eighth = isEighth(lodger);
            if (!eighth && hasTooLittleNeed(lodger) && lodgers.get(lodger, FAVOURS) == 0) {
                return TOO_LITTLE_NEED;
            }
            int bed = night.leastLentBed(first, hours);
            if (!eighth && night.lentHoursIn(bed, first, hours) > 0) {
                return NO_FREE_BED;
            }
            return GRANTED + bed;
        }

        private boolean isEighth(int lodger) {
            return lodgers.get(lodger, REFUSALS) >= MOST_REFUSALS;
        }

        private boolean hasTooLittleNeed(int lodger) {
            return lodgers.get(lodger, NEED) < accounts.get(0, SETTING);
        }

        int wouldBePutOut(int lodger, int first, int hours) {
            int answer = answerTo(lodger, first, hours);
            return answer < GRANTED ? 0 : night.holdersMask(answer - GRANTED, first, hours);
        }

        int takeAsking(int lodger, int first, int hours) {
            int answer = answerTo(lodger, first, hours);
            if (answer < GRANTED) {
                refuse(lodger, answer);
            } else {
                grant(lodger, answer - GRANTED, first, hours);
            }
            return answer;
        }

        private void refuse(int lodger, int reason) {
            reasons.raise(0, reason, 1);
            accounts.raise(0, REFUSED_ASKINGS, 1);
            if (reason == TOO_LITTLE_NEED || reason == NO_FREE_BED) {
                countRefusal(lodger);
            }
        }

        private void countRefusal(int lodger) {
            int more = lodgers.get(lodger, REFUSALS) + 1;
            lodgers.put(lodger, REFUSALS, Math.min(MOST_REFUSALS, more));
        }

        private void grant(int lodger, int bed, int first, int hours) {
            if (isEighth(lodger)) {
                lodgers.raise(lodger, EIGHTH_ASKINGS, 1);
                countPutOut(night.holdersMask(bed, first, hours));
                accounts.raise(0, LOST_HOURS, night.freePiecesIn(bed, first, hours));
            } else if (hasTooLittleNeed(lodger)) {
                lodgers.raise(lodger, FAVOURS, -1);
                accounts.raise(0, USED_FAVOURS, 1);
            }
            lodgers.put(lodger, REFUSALS, 0);
            night.lend(lodger, bed, first, hours);
            accounts.raise(0, DONE_ASKINGS, 1);
        }

        private void countPutOut(int mask) {
            accounts.raise(0, PUT_OUT_LODGERS, Integer.bitCount(mask));
            for (int lodger = 0; lodger < LODGERS; lodger++) {
                if ((mask >> lodger & 1) == 1) {
                    lodgers.raise(lodger, TIMES_PUT_OUT, 1);
                    countRefusal(lodger);
                }
            }
        }

        // ---- what else is done

        int takeBack(int lodger, int hour) {
            int bed = night.bedOf(lodger, hour);
            if (bed == NONE || night.wentBy(hour)) {
                accounts.raise(0, REFUSED_ELSE, 1);
                return NONE;
            }
            return night.freePieceFrom(bed, hour);
        }

        int giveFavour(int lodger) {
            if (lodgers.get(lodger, FAVOURS) >= MOST_FAVOURS) {
                accounts.raise(0, REFUSED_ELSE, 1);
                return NONE;
            }
            lodgers.raise(lodger, FAVOURS, 1);
            return lodgers.get(lodger, FAVOURS);
        }

        int changeNeed(int lodger, int need) {
            int before = lodgers.get(lodger, NEED);
            lodgers.put(lodger, NEED, need);
            return before;
        }

        int changeSetting(int value) {
            int before = accounts.get(0, SETTING);
            accounts.put(0, SETTING, value);
            return before;
        }

        boolean canLetHourGo() {
            return accounts.get(0, ENDED_NIGHTS) < MOST_NIGHTS;
        }

        int letHourGo() {
            int hour = night.goneHours();
            int sleepers = night.lentBeds(hour);
            for (int lodger = 0; lodger < LODGERS; lodger++) {
                lodgers.raise(lodger, HOURS_SLEPT, night.hoursWithBed(lodger, hour, 1));
            }
            accounts.raise(0, SLEPT_HOURS, sleepers);
            night.advance();
            if (night.goneHours() == 0) {
                accounts.raise(0, ENDED_NIGHTS, 1);
            }
            return sleepers;
        }
    }

    /** Places for copies of a house, made once, so that saving a state makes no object. */
    private static final class Shelf {
        private final House[] houses;
        private final boolean[] filled;

        Shelf(int places) {
            houses = new House[Math.max(0, places)];
            filled = new boolean[houses.length];
            for (int place = 0; place < houses.length; place++) {
                houses[place] = new House();
            }
        }

        private House houseIn(int place) {
            return place >= 0 && place < houses.length ? houses[place] : null;
        }

        boolean isFilled(int place) {
            return place >= 0 && place < filled.length && filled[place];
        }

        void store(int place, House house) {
            House copy = houseIn(place);
            if (copy != null && place >= 0 && place < filled.length) {
                copy.copyFrom(house);
                filled[place] = true;
            }
        }

        void restore(int place, House house) {
            House copy = houseIn(place);
            if (copy != null) {
                house.copyFrom(copy);
            }
        }
    }

    /** The buffer, and how it is read as askings. */
    private static final class AskingText {
        /** From the first sign of an asking, or of an hour that goes by, to that of the next. */
        static final int ASKING_STEP = 5;
        static final int HOUR_STEP = 2;

        private static final int BEFORE_LODGER = 0;
        private static final int BEFORE_AT = 1;
        private static final int BEFORE_HOUR = 2;
        private static final int BEFORE_HOURS = 3;
        private static final int AT_END = 4;
        private static final int WRONG = 5;

        private final int[] signs = new int[BUFFER_SIZE];
        private int size;

        int size() {
            return size;
        }

        int sign(int place) {
            return place >= 0 && place < size && place < signs.length ? signs[place] : NONE;
        }

        boolean isFull() {
            return size >= signs.length;
        }

        int addSign(int code) {
            if (size >= 0 && size < signs.length) {
                signs[size] = code;
                size++;
            }
            return size;
        }

        int empty() {
            int before = size;
            size = 0;
            return before;
        }

        int errorPlace() {
            int state = BEFORE_LODGER;
            for (int place = 0; place < size; place++) {
                state = stateAfter(state, sign(place));
                if (state == WRONG) {
                    return place;
                }
            }
            return size;
        }

        boolean tellsAskings() {
            int state = BEFORE_LODGER;
            for (int place = 0; place < size; place++) {
                state = stateAfter(state, sign(place));
            }
            return state == AT_END;
        }

        private static int stateAfter(int state, int code) {
            switch (state) {
                case BEFORE_LODGER:
                    return code == 'h' ? AT_END : next(code >= '0' && code <= '9', BEFORE_AT);
                case BEFORE_AT:
                    return next(code == '@', BEFORE_HOUR);
                case BEFORE_HOUR:
                    return next(code >= 'a' && code <= 'l', BEFORE_HOURS);
                case BEFORE_HOURS:
                    return next(code >= '1' && code <= '9', AT_END);
                case AT_END:
                    return next(code == ';', BEFORE_LODGER);
                default:
                    return WRONG;
            }
        }

        private static int next(boolean fits, int state) {
            return fits ? state : WRONG;
        }

        boolean tellsHour(int place) {
            return sign(place) == 'h';
        }

        int lodger(int place) {
            return sign(place) - '0';
        }

        int firstHour(int place) {
            return sign(place + 2) - 'a';
        }

        int hours(int place) {
            return sign(place + 3) - '0';
        }
    }
}
