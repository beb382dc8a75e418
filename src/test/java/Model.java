import java.util.ArrayDeque;
import java.util.ArrayList;
import java.util.Deque;
import java.util.List;
import java.util.Set;
import java.util.TreeSet;

/**
 * The document told a second time, as plainly as can be and by other means than the class: whole
 * states are copied, pieces are listed, and what would be is tried out on a copy.
 */
final class Model {
    private static final class State {
        int[][] beds = new int[4][12];
        int gone;
        int nights;
        int setting = 3;
        int done;
        int lost;
        int favoursUsed;
        int elseRefused;
        int[] refusedFor = new int[5];
        int[] need = new int[10];
        int[] refusals = new int[10];
        int[] favours = new int[10];
        int[] slept = new int[10];
        int[] putOut = new int[10];
        int[] eighths = new int[10];

        State() {
            for (int[] bed : beds) {
                java.util.Arrays.fill(bed, -1);
            }
            for (int lodger = 0; lodger < 10; lodger++) {
                need[lodger] = lodger;
            }
        }

        State copy() {
            State c = new State();
            for (int bed = 0; bed < 4; bed++) {
                c.beds[bed] = beds[bed].clone();
            }
            c.gone = gone;
            c.nights = nights;
            c.setting = setting;
            c.done = done;
            c.lost = lost;
            c.favoursUsed = favoursUsed;
            c.elseRefused = elseRefused;
            c.refusedFor = refusedFor.clone();
            c.need = need.clone();
            c.refusals = refusals.clone();
            c.favours = favours.clone();
            c.slept = slept.clone();
            c.putOut = putOut.clone();
            c.eighths = eighths.clone();
            return c;
        }
    }

    /** The hours from first to last in which a lodger has a bed without a gap. */
    private record Piece(int bed, int first, int last, int lodger) {
    }

    private State now = new State();
    private final State[] slots = new State[2];
    private final Deque<State> saved = new ArrayDeque<>();
    private String buffer = "";

    private void save() {
        saved.addLast(now.copy());
        if (saved.size() > 6) {
            saved.removeFirst();
        }
    }

    private static void inRange(int value, int least, int most) {
        if (value < least || value > most) {
            throw new IllegalArgumentException();
        }
    }

    private static void lodgerOk(int lodger) {
        if (lodger < 0 || lodger > 9) {
            throw new IndexOutOfBoundsException();
        }
    }

    private static void askingOk(int lodger, int first, int hours) {
        lodgerOk(lodger);
        inRange(first, 0, 11);
        inRange(hours, 1, 9);
        inRange(first + hours - 1, 0, 11);
    }

    private List<Piece> pieces() {
        List<Piece> all = new ArrayList<>();
        for (int first = 0; first < 12; first++) {
            for (int bed = 0; bed < 4; bed++) {
                int lodger = now.beds[bed][first];
                if (lodger < 0 || first > 0 && now.beds[bed][first - 1] == lodger) {
                    continue;
                }
                int last = first;
                while (last + 1 < 12 && now.beds[bed][last + 1] == lodger) {
                    last++;
                }
                all.add(new Piece(bed, first, last, lodger));
            }
        }
        return all;
    }

    private boolean isFree(int bed, int first, int hours) {
        return lent(bed, first, hours) == 0;
    }

    private int lent(int bed, int first, int hours) {
        int lent = 0;
        for (int hour = first; hour < first + hours; hour++) {
            if (now.beds[bed][hour] >= 0) {
                lent++;
            }
        }
        return lent;
    }

    private boolean reasonTwo(int lodger, int first, int hours) {
        for (Piece p : pieces()) {
            if (p.lodger == lodger && p.first < first + hours && p.last >= first) {
                return true;
            }
        }
        return false;
    }

    private int freeBed(int first, int hours) {
        for (int bed = 0; bed < 4; bed++) {
            if (isFree(bed, first, hours)) {
                return bed;
            }
        }
        return -1;
    }

    private int asked(int lodger, int first, int hours) {
        int reason = 0;
        boolean eighth = now.refusals[lodger] == 7;
        if (first < now.gone) {
            reason = 1;
        } else if (reasonTwo(lodger, first, hours)) {
            reason = 2;
        } else if (!eighth && now.need[lodger] < now.setting && now.favours[lodger] == 0) {
            reason = 3;
        } else if (!eighth && freeBed(first, hours) < 0) {
            reason = 4;
        }
        if (reason > 0) {
            now.refusedFor[reason]++;
            if (reason > 2) {
                now.refusals[lodger] = Math.min(7, now.refusals[lodger] + 1);
            }
            return reason;
        }
        int bed = freeBed(first, hours);
        if (bed < 0) {
            bed = putOut(first, hours);
        }
        if (eighth) {
            now.eighths[lodger]++;
        } else if (now.need[lodger] < now.setting) {
            now.favours[lodger]--;
            now.favoursUsed++;
        }
        now.refusals[lodger] = 0;
        for (int hour = first; hour < first + hours; hour++) {
            now.beds[bed][hour] = lodger;
        }
        now.done++;
        return 10 + bed;
    }

    private int putOut(int first, int hours) {
        int bed = 0;
        for (int other = 3; other >= 0; other--) {
            if (lent(other, first, hours) <= lent(bed, first, hours)) {
                bed = other;
            }
        }
        Set<Integer> out = new TreeSet<>();
        for (Piece p : pieces()) {
            if (p.bed == bed && p.first < first + hours && p.last >= first) {
                out.add(p.lodger);
                for (int hour = p.first; hour <= p.last; hour++) {
                    if (hour >= now.gone) {
                        now.beds[bed][hour] = -1;
                        now.lost++;
                    }
                }
            }
        }
        for (int lodger : out) {
            now.putOut[lodger]++;
            now.refusals[lodger] = Math.min(7, now.refusals[lodger] + 1);
        }
        return bed;
    }

    private int passed() {
        int sleepers = 0;
        for (int bed = 0; bed < 4; bed++) {
            int lodger = now.beds[bed][now.gone];
            if (lodger >= 0) {
                now.slept[lodger]++;
                sleepers++;
            }
        }
        now.gone++;
        if (now.gone == 12) {
            now.gone = 0;
            now.nights++;
            now.beds = new State().beds;
        }
        return sleepers;
    }

    // ---- the face

    int ask(int lodger, int first, int hours) {
        askingOk(lodger, first, hours);
        save();
        return asked(lodger, first, hours);
    }

    int giveBack(int lodger, int hour) {
        lodgerOk(lodger);
        inRange(hour, 0, 11);
        save();
        for (Piece p : pieces()) {
            if (p.lodger == lodger && p.first <= hour && hour <= p.last && hour >= now.gone) {
                for (int h = hour; h <= p.last; h++) {
                    now.beds[p.bed][h] = -1;
                }
                return p.last - hour + 1;
            }
        }
        now.elseRefused++;
        return -1;
    }

    int favour(int lodger) {
        lodgerOk(lodger);
        save();
        if (now.favours[lodger] == 3) {
            now.elseRefused++;
            return -1;
        }
        return ++now.favours[lodger];
    }

    int need(int lodger, int need) {
        lodgerOk(lodger);
        inRange(need, 0, 9);
        save();
        int before = now.need[lodger];
        now.need[lodger] = need;
        return before;
    }

    int pass() {
        if (now.nights == 999) {
            throw new IllegalStateException();
        }
        save();
        return passed();
    }

    int set(int value) {
        inRange(value, 0, 9);
        save();
        int before = now.setting;
        now.setting = value;
        return before;
    }

    int append(int code) {
        inRange(code, 33, 126);
        if (buffer.length() == 60) {
            throw new IllegalStateException();
        }
        buffer += (char) code;
        return buffer.length();
    }

    int clearBuffer() {
        int before = buffer.length();
        buffer = "";
        return before;
    }

    /** A text is a beginning of askings if some ending makes askings of it. */
    int firstError() {
        for (int length = 1; length <= buffer.length(); length++) {
            String begin = buffer.substring(0, length);
            if (!tells(begin) && !tells(begin + "h") && !tells(begin + "@a1") && !tells(begin + "a1")
                    && !tells(begin + "1")) {
                return length - 1;
            }
        }
        return buffer.length();
    }

    private static boolean tells(String text) {
        return text.matches("([0-9]@[a-l][1-9]|h)(;([0-9]@[a-l][1-9]|h))*");
    }

    int run() {
        if (!tells(buffer)) {
            throw new IllegalArgumentException();
        }
        save();
        int done = 0;
        for (String item : buffer.split(";")) {
            if (item.equals("h")) {
                if (now.nights == 999) {
                    break;
                }
                passed();
                done++;
            } else {
                int first = item.charAt(2) - 'a';
                int hours = item.charAt(3) - '0';
                if (first + hours > 12) {
                    break;
                }
                done += asked(item.charAt(0) - '0', first, hours) >= 10 ? 1 : 0;
            }
        }
        buffer = "";
        return done;
    }

    int keep(int slot) {
        inRange(slot, 0, 1);
        slots[slot] = now.copy();
        return count(2);
    }

    int goBack(int slot) {
        inRange(slot, 0, 1);
        if (slots[slot] == null) {
            throw new IllegalStateException();
        }
        save();
        now = slots[slot].copy();
        return count(2);
    }

    int undo() {
        if (saved.isEmpty()) {
            throw new IllegalStateException();
        }
        now = saved.removeLast();
        return saved.size();
    }

    int at(int bed, int hour) {
        if (bed < 0 || bed > 3) {
            throw new IndexOutOfBoundsException();
        }
        inRange(hour, 0, 11);
        return now.beds[bed][hour];
    }

    int lodgerOf(int lodger, int what) {
        lodgerOk(lodger);
        inRange(what, 0, 6);
        int lent = pieces().stream().filter(p -> p.lodger == lodger).mapToInt(p -> p.last - p.first + 1).sum();
        return new int[] {now.need[lodger], now.refusals[lodger], now.favours[lodger], lent,
            now.slept[lodger], now.putOut[lodger], now.eighths[lodger]}[what];
    }

    private static int sum(int[] numbers) {
        return java.util.Arrays.stream(numbers).sum();
    }

    int count(int what) {
        inRange(what, 0, 11);
        int lent = pieces().stream().mapToInt(p -> p.last - p.first + 1).sum();
        return new int[] {now.gone, now.nights, lent, sum(now.slept), now.done, sum(now.refusedFor),
            sum(now.putOut), now.lost, now.favoursUsed, now.setting, now.elseRefused, saved.size()}[what];
    }

    int refused(int reason) {
        inRange(reason, 1, 4);
        return now.refusedFor[reason];
    }

    int ifAsked(int lodger, int first, int hours) {
        askingOk(lodger, first, hours);
        State before = now.copy();
        int answer = asked(lodger, first, hours);
        now = before;
        return answer;
    }

    int ifPutOut(int lodger, int first, int hours) {
        askingOk(lodger, first, hours);
        State before = now.copy();
        asked(lodger, first, hours);
        int mask = 0;
        for (int other = 0; other < 10; other++) {
            if (now.putOut[other] > before.putOut[other]) {
                mask += 1 << other;
            }
        }
        now = before;
        return mask;
    }

    int fewestBeds(int what) {
        inRange(what, 0, 1);
        List<Piece> all = pieces();
        for (int beds = 0; beds < 4; beds++) {
            if (fits(all, 0, new int[beds])) {
                return beds;
            }
        }
        return 4;
    }

    /** Tries every bed for every piece; a bed is a mask of its hours. */
    private static boolean fits(List<Piece> all, int next, int[] beds) {
        if (next == all.size()) {
            return true;
        }
        Piece p = all.get(next);
        int hours = (1 << p.last + 1) - (1 << p.first);
        for (int bed = 0; bed < beds.length; bed++) {
            if ((beds[bed] & hours) == 0) {
                beds[bed] += hours;
                if (fits(all, next + 1, beds)) {
                    return true;
                }
                beds[bed] -= hours;
            }
        }
        return false;
    }

    int longest(int lodger, int first) {
        lodgerOk(lodger);
        inRange(first, 0, 11);
        for (int hours = Math.min(9, 12 - first); hours > 0; hours--) {
            if (first >= now.gone && !reasonTwo(lodger, first, hours) && freeBed(first, hours) >= 0) {
                return hours;
            }
        }
        return 0;
    }

    int poorest() {
        for (int refusals = 7; refusals >= 0; refusals--) {
            for (int need = 9; need >= 0; need--) {
                for (int lodger = 0; lodger < 10; lodger++) {
                    if (now.refusals[lodger] == refusals && now.need[lodger] == need) {
                        return lodger;
                    }
                }
            }
        }
        return -1;
    }

    double fullness() {
        return count(2) / 48.0;
    }

    long digest() {
        List<Long> values = new ArrayList<>();
        for (int what = 0; what < 12; what++) {
            values.add((long) count(what));
        }
        for (int reason = 1; reason < 5; reason++) {
            values.add((long) refused(reason));
        }
        for (int place = 0; place < 48; place++) {
            values.add((long) at(place / 12, place % 12));
        }
        for (int lodger = 0; lodger < 10; lodger++) {
            for (int what = 0; what < 7; what++) {
                values.add((long) lodgerOf(lodger, what));
            }
            values.add((long) longest(lodger, 0));
            values.add((long) longest(lodger, 6));
            values.add((long) ifAsked(lodger, 8, 3));
            values.add((long) ifPutOut(lodger, 8, 3));
        }
        values.add((long) fewestBeds(0));
        values.add((long) fewestBeds(1));
        values.add((long) poorest());
        values.add(Double.doubleToLongBits(fullness()));
        for (State slot : slots) {
            values.add(slot == null ? 0L : 1L);
        }
        values.add((long) buffer.length());
        buffer.chars().forEach(code -> values.add((long) code));
        long hash = 3659;
        for (long value : values) {
            hash = 31 * hash + value;
        }
        return hash;
    }
}
