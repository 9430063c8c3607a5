import java.math.BigInteger;
import java.util.ArrayList;
import java.util.Arrays;
import java.util.List;

/**
 * The document once more, told in another way: nothing is kept that can be found by looking, states
 * are whole copies, and each refusal gathers all of its reasons before it takes the lowest one.
 */
final class PlainCanal {
    private static final List<String> VERBS =
            Arrays.asList("sluice", "open", "close", "enter", "leave", "load", "pump");
    private static final String[] KINDS = {"CG", "CG", "C", "BC", "CG", "BT", "BT"};

    private State now = new State();
    private final List<State> history = new ArrayList<>();
    private final State[] slots = new State[2];
    private StringBuilder text = new StringBuilder();
    private int reason = 0;

    int reason() {
        return reason;
    }

    /** What a call changes, if it is an act; its answer is found behind the sharing. */
    private interface Change {
        void make();
    }

    private interface Answer {
        long find();
    }

    private static final class State {
        final List<long[]> reaches = new ArrayList<>();
        final List<long[]> chambers = new ArrayList<>();
        final List<List<Integer>> rows = new ArrayList<>();
        final List<long[]> barges = new ArrayList<>();
        long clearance = 10;
        long supplied = 0;
        long begun = 0;

        State copy() {
            State other = new State();
            reaches.forEach(row -> other.reaches.add(row.clone()));
            chambers.forEach(row -> other.chambers.add(row.clone()));
            rows.forEach(row -> other.rows.add(new ArrayList<>(row)));
            barges.forEach(row -> other.barges.add(row.clone()));
            other.clearance = clearance;
            other.supplied = supplied;
            other.begun = begun;
            return other;
        }
    }

    // Cells of reaches and chambers: area, floor, water; chambers: length, the open gate, and for
    // each of the gates the sill, the mud and the passages.
    private static final int AREA = 0;
    private static final int FLOOR = 1;
    private static final int WATER = 2;
    private static final int LENGTH = 3;
    private static final int GATE = 4;
    private static final int SILL = 5;
    private static final int MUD = 7;
    private static final int PASSED = 9;
    // Cells of barges.
    private static final int LONG = 0;
    private static final int OWN = 1;
    private static final int IMMERSION = 2;
    private static final int HOLD = 3;
    private static final int CARGO = 4;
    private static final int BALLAST = 5;
    private static final int PLACE = 6;
    private static final int TRIPS = 7;

    private static long floorOf(BigInteger dividend, long divisor) {
        BigInteger[] parts = dividend.divideAndRemainder(BigInteger.valueOf(divisor));
        return parts[0].longValueExact() - (parts[1].signum() < 0 ? 1 : 0);
    }

    private static BigInteger product(long a, long b) {
        return BigInteger.valueOf(a).multiply(BigInteger.valueOf(b));
    }

    private long weight(long[] barge) {
        return barge[OWN] + barge[CARGO] + barge[BALLAST];
    }

    private static long draughtOf(long weight, long immersion) {
        return weight / immersion + (weight % immersion == 0 ? 0 : 1);
    }

    private long draught(long[] barge) {
        return draughtOf(weight(barge), barge[IMMERSION]);
    }

    private long[] waterAt(long place) {
        return place >= 100 ? now.chambers.get((int) place - 100) : now.reaches.get((int) place);
    }

    private long floats(long place) {
        return now.barges.stream().filter(b -> b[PLACE] == place).mapToLong(this::weight).sum();
    }

    private long level(long place) {
        long[] water = waterAt(place);
        return water[FLOOR] + floorOf(product(water[WATER] + floats(place), 100), water[AREA]);
    }

    private boolean aground(long[] barge) {
        return level(barge[PLACE]) - waterAt(barge[PLACE])[FLOOR] < draught(barge);
    }

    private long lengthLeft(int chamber) {
        long left = now.chambers.get(chamber)[LENGTH];
        for (int barge : now.rows.get(chamber)) {
            left -= now.barges.get(barge)[LONG];
        }
        return left;
    }

    private long shared(int chamber, int gate) {
        long[] c = waterAt(100 + chamber);
        long[] r = waterAt(chamber + gate);
        long own = floats(100 + chamber);
        long sum = c[WATER] + r[WATER] + own + floats(chamber + gate);
        BigInteger all = product(sum, 100).add(product(c[AREA], c[FLOOR])).add(product(r[AREA], r[FLOOR]));
        long height = floorOf(all, c[AREA] + r[AREA]);
        long due = floorOf(product(c[AREA], height - c[FLOOR]), 100) - own;
        if (due < 0) {
            return 0;
        }
        return due > c[WATER] + r[WATER] ? c[WATER] + r[WATER] : due;
    }

    private void share(int chamber, int gate) {
        long both = waterAt(100 + chamber)[WATER] + waterAt(chamber + gate)[WATER];
        long part = shared(chamber, gate);
        waterAt(100 + chamber)[WATER] = part;
        waterAt(chamber + gate)[WATER] = both - part;
    }

    private void shareAll() {
        for (int i = 0; i < now.chambers.size(); i++) {
            int gate = (int) now.chambers.get(i)[GATE];
            if (gate >= 0) {
                share(i, gate);
            }
        }
    }

    private static boolean in(long value, long least, long most) {
        return least <= value && value <= most;
    }

    private boolean isReach(int reach) {
        return in(reach, 0, now.reaches.size() - 1);
    }

    private boolean isChamber(int chamber) {
        return in(chamber, 0, now.chambers.size() - 1);
    }

    private boolean isGate(int chamber, int gate) {
        return isChamber(chamber) && in(gate, 0, 1);
    }

    private boolean isBarge(int barge) {
        return in(barge, 0, now.barges.size() - 1);
    }

    private long refuse(int... reasons) {
        reason = Arrays.stream(reasons).filter(r -> r > 0).min().getAsInt();
        return BargeLocks.REFUSED;
    }

    private static boolean any(int... reasons) {
        return Arrays.stream(reasons).anyMatch(r -> r > 0);
    }

    private long act(boolean inOrders, Change change, Answer answer) {
        if (!inOrders) {
            history.add(now.copy());
            if (history.size() > 5) {
                history.remove(0);
            }
        }
        change.make();
        shareAll();
        return answer.find();
    }

    /** Carries out the call of the method with this name. */
    long call(String method, int[] a) {
        switch (method) {
            case "addReach":
                return addReach(a[0], a[1], a[2]);
            case "addChamber":
                return addChamber(a);
            case "setSill":
                return setSill(a[0], a[1], a[2]);
            case "setClearance":
                return setClearance(a[0]);
            case "dredge":
                return dredge(a[0], a[1]);
            case "supply":
                return supply(a[0], a[1]);
            case "addBarge":
                return addBarge(a);
            case "type":
                return text.length() == 60 ? BargeLocks.FULL : text.append((char) a[0]).length();
            case "clearText":
                return clearText();
            case "runOrders":
                return runOrders();
            case "undo":
                return undo();
            case "keep":
                return keep(a[0]);
            case "restore":
                return restore(a[0]);
            default:
                return VERBS.contains(method) ? order(false, method, a[0], a[a.length - 1]) : tell(method, a);
        }
    }

    private long addReach(int area, int floor, int water) {
        if (!in(area, 100, 100000) || !in(floor, 0, 5000) || !in(water, 0, 10000000)) {
            return BargeLocks.BAD_VALUE;
        }
        if (!now.reaches.isEmpty()) {
            return BargeLocks.FULL;
        }
        return act(false, () -> appendReach(area, floor, water), () -> 0);
    }

    private void appendReach(int area, int floor, int water) {
        now.reaches.add(new long[] {area, floor, water});
        now.begun += water;
    }

    private long addChamber(int[] a) {
        boolean good = in(a[0], 100, 100000) && in(a[1], 10, 200) && in(a[2], 0, 5000)
                && in(a[3], 100, 100000) && in(a[4], 0, 5000) && in(a[5], 0, 10000000);
        if (!good) {
            return BargeLocks.BAD_VALUE;
        }
        int number = now.chambers.size();
        if (number == 4 || now.reaches.isEmpty()) {
            return BargeLocks.FULL;
        }
        return act(false, () -> {
            now.chambers.add(new long[] {a[0], a[2], 0, a[1], -1, 0, 0, 0, 0, 0, 0});
            now.rows.add(new ArrayList<>());
            appendReach(a[3], a[4], a[5]);
        }, () -> number);
    }

    private long setSill(int chamber, int gate, int height) {
        if (!isGate(chamber, gate)) {
            return BargeLocks.UNKNOWN;
        }
        if (!in(height, 0, 5000)) {
            return BargeLocks.BAD_VALUE;
        }
        long previous = now.chambers.get(chamber)[SILL + gate];
        return act(false, () -> now.chambers.get(chamber)[SILL + gate] = height, () -> previous);
    }

    private long setClearance(int clearance) {
        if (!in(clearance, 0, 50)) {
            return BargeLocks.BAD_VALUE;
        }
        long previous = now.clearance;
        return act(false, () -> now.clearance = clearance, () -> previous);
    }

    private long dredge(int chamber, int gate) {
        if (!isGate(chamber, gate)) {
            return BargeLocks.UNKNOWN;
        }
        long had = now.chambers.get(chamber)[MUD + gate];
        if (had == 0) {
            return BargeLocks.NONE;
        }
        return act(false, () -> now.chambers.get(chamber)[MUD + gate] = 0, () -> had);
    }

    private long supply(int reach, int amount) {
        if (!isReach(reach)) {
            return BargeLocks.UNKNOWN;
        }
        if (!in(amount, -1000000, 1000000)) {
            return BargeLocks.BAD_VALUE;
        }
        if (!in(waterAt(reach)[WATER] + amount, 0, 100000000)) {
            return refuse(8);
        }
        return act(false, () -> {
            waterAt(reach)[WATER] += amount;
            now.supplied += amount;
        }, () -> level(reach));
    }

    private long addBarge(int[] a) {
        if (!isReach(a[0])) {
            return BargeLocks.UNKNOWN;
        }
        if (!in(a[1], 5, 60) || !in(a[2], 10, 500) || !in(a[3], 1, 20) || !in(a[4], 10, 1000)) {
            return BargeLocks.BAD_VALUE;
        }
        int number = now.barges.size();
        if (number == 12) {
            return BargeLocks.FULL;
        }
        return act(false, () -> now.barges.add(new long[] {a[1], a[2], a[3], a[4], 0, 0, a[0], 0}), () -> number);
    }

    /** The seven verbs, as calls or as orders. */
    private long order(boolean inOrders, String verb, int a, int b) {
        switch (verb) {
            case "load":
                return load(inOrders, a, b);
            case "pump":
                return pump(inOrders, a, b);
            case "sluice":
                return sluice(inOrders, a, b);
            case "open":
                return open(inOrders, a, b);
            case "close":
                return close(inOrders, a);
            case "enter":
                return enter(inOrders, a, b);
            default:
                return leave(inOrders, a, b);
        }
    }

    private long load(boolean inOrders, int barge, int tons) {
        if (!isBarge(barge)) {
            return BargeLocks.UNKNOWN;
        }
        if (!in(tons, -1000, 1000) || tons == 0) {
            return BargeLocks.BAD_VALUE;
        }
        long[] b = now.barges.get(barge);
        int away = b[PLACE] >= 100 ? 4 : 0;
        int amount = b[CARGO] + tons < 0 || b[CARGO] + b[BALLAST] + tons > b[HOLD] ? 8 : 0;
        if (any(amount, away)) {
            return refuse(amount, away);
        }
        return act(inOrders, () -> b[CARGO] += tons, () -> draught(b));
    }

    private long pump(boolean inOrders, int barge, int tons) {
        if (!isBarge(barge)) {
            return BargeLocks.UNKNOWN;
        }
        if (!in(tons, -1000, 1000) || tons == 0) {
            return BargeLocks.BAD_VALUE;
        }
        long[] b = now.barges.get(barge);
        boolean hold = b[CARGO] + b[BALLAST] + tons > b[HOLD];
        if (hold || b[BALLAST] + tons < 0 || waterAt(b[PLACE])[WATER] - tons < 0) {
            return refuse(8);
        }
        return act(inOrders, () -> {
            b[BALLAST] += tons;
            waterAt(b[PLACE])[WATER] -= tons;
        }, () -> draught(b));
    }

    private long sluice(boolean inOrders, int chamber, int gate) {
        if (!isGate(chamber, gate)) {
            return BargeLocks.UNKNOWN;
        }
        if (now.chambers.get(chamber)[GATE] >= 0) {
            return refuse(1);
        }
        return act(inOrders, () -> share(chamber, gate), () -> level(100 + chamber));
    }

    private long open(boolean inOrders, int chamber, int gate) {
        if (!isGate(chamber, gate)) {
            return BargeLocks.UNKNOWN;
        }
        int opened = now.chambers.get(chamber)[GATE] >= 0 ? 1 : 0;
        int differ = in(level(100 + chamber) - level(chamber + gate), -2, 2) ? 0 : 3;
        if (any(differ, opened)) {
            return refuse(differ, opened);
        }
        return act(inOrders, () -> now.chambers.get(chamber)[GATE] = gate, () -> level(100 + chamber));
    }

    private long close(boolean inOrders, int chamber) {
        if (!isChamber(chamber)) {
            return BargeLocks.UNKNOWN;
        }
        long gate = now.chambers.get(chamber)[GATE];
        if (gate < 0) {
            return refuse(2);
        }
        return act(inOrders, () -> now.chambers.get(chamber)[GATE] = -1, () -> gate);
    }

    private int tooDeep(long[] barge, int chamber, int gate) {
        long[] c = now.chambers.get(chamber);
        long over = level(100 + chamber) - (c[SILL + gate] + c[MUD + gate]);
        return over < draught(barge) + now.clearance ? 7 : 0;
    }

    private void passage(long[] barge, int chamber, int gate, long place) {
        barge[PLACE] = place;
        barge[TRIPS]++;
        long[] c = now.chambers.get(chamber);
        c[PASSED + gate]++;
        if (c[PASSED + gate] % 8 == 0) {
            c[MUD + gate]++;
        }
    }

    private long enter(boolean inOrders, int barge, int chamber) {
        if (!isBarge(barge) || !isChamber(chamber)) {
            return BargeLocks.UNKNOWN;
        }
        int gate = (int) now.chambers.get(chamber)[GATE];
        if (gate < 0) {
            return refuse(2);
        }
        long[] b = now.barges.get(barge);
        int away = b[PLACE] == chamber + gate ? 0 : 4;
        int ground = aground(b) ? 5 : 0;
        int tooLong = b[LONG] > lengthLeft(chamber) ? 6 : 0;
        int deep = tooDeep(b, chamber, gate);
        if (any(deep, tooLong, ground, away)) {
            return refuse(deep, tooLong, ground, away);
        }
        return act(inOrders, () -> {
            now.rows.get(chamber).add(gate == 0 ? 0 : now.rows.get(chamber).size(), barge);
            passage(b, chamber, gate, 100 + chamber);
        }, () -> lengthLeft(chamber));
    }

    private long leave(boolean inOrders, int chamber, int gate) {
        if (!isGate(chamber, gate)) {
            return BargeLocks.UNKNOWN;
        }
        int closed = now.chambers.get(chamber)[GATE] == gate ? 0 : 2;
        List<Integer> row = now.rows.get(chamber);
        if (row.isEmpty()) {
            return refuse(4, closed);
        }
        int barge = gate == 0 ? row.get(0) : row.get(row.size() - 1);
        long[] b = now.barges.get(barge);
        int ground = aground(b) ? 5 : 0;
        int deep = tooDeep(b, chamber, gate);
        if (any(deep, ground, closed)) {
            return refuse(deep, ground, closed);
        }
        return act(inOrders, () -> {
            row.remove(Integer.valueOf(barge));
            passage(b, chamber, gate, chamber + gate);
        }, () -> barge);
    }

    private long clearText() {
        int had = text.length();
        text = new StringBuilder();
        return had;
    }

    /** Each order of the text as a verb and two numbers, or only the fault, as {-1, index}. */
    private List<int[]> read() {
        String all = text.toString();
        List<int[]> orders = new ArrayList<>();
        int at = 0;
        for (String order : all.split(";", -1)) {
            String[] words = order.split(" ", -1);
            int verb = VERBS.indexOf(words[0]);
            if (verb < 0) {
                return List.of(new int[] {-1, at});
            }
            int[] read = {verb, 0, 0};
            int wordAt = at + words[0].length();
            for (int i = 0; i < KINDS[verb].length(); i++) {
                if (words.length < i + 2) {
                    return List.of(new int[] {-1, at + order.length()});
                }
                read[i + 1] = number(words[i + 1], KINDS[verb].charAt(i));
                if (read[i + 1] < 0) {
                    return List.of(new int[] {-1, wordAt + 1});
                }
                wordAt += 1 + words[i + 1].length();
            }
            if (words.length > KINDS[verb].length() + 1) {
                return List.of(new int[] {-1, wordAt});
            }
            orders.add(read);
            at += order.length() + 1;
        }
        return orders;
    }

    private static int number(String word, char kind) {
        if (!word.matches("[0-9]{1,3}")) {
            return -1;
        }
        int value = Integer.parseInt(word);
        int least = kind == 'T' ? 1 : 0;
        int most = kind == 'T' ? 999 : kind == 'B' ? 11 : kind == 'C' ? 3 : 1;
        return in(value, least, most) ? value : -1;
    }

    private long runOrders() {
        List<int[]> orders = read();
        if (orders.get(0)[0] < 0) {
            return -100 - orders.get(0)[1];
        }
        int[] done = {0};
        return act(false, () -> {
            for (int[] each : orders) {
                if (order(true, VERBS.get(each[0]), each[1], each[2]) < 0) {
                    break;
                }
                done[0]++;
            }
        }, () -> done[0]);
    }

    private long undo() {
        if (history.isEmpty()) {
            return BargeLocks.NONE;
        }
        now = history.remove(history.size() - 1);
        return history.size();
    }

    private long keep(int slot) {
        if (!in(slot, 0, 1)) {
            return BargeLocks.UNKNOWN;
        }
        slots[slot] = now.copy();
        return now.barges.size();
    }

    private long restore(int slot) {
        if (!in(slot, 0, 1)) {
            return BargeLocks.UNKNOWN;
        }
        if (slots[slot] == null) {
            return BargeLocks.NONE;
        }
        history.add(now);
        if (history.size() > 5) {
            history.remove(0);
        }
        now = slots[slot].copy();
        return now.barges.size();
    }

    private long tell(String method, int[] a) {
        switch (method) {
            case "reach":
                return isReach(a[0]) ? water(a[0], a[1]) : BargeLocks.UNKNOWN;
            case "chamber":
                return isChamber(a[0]) ? chamber(a[0], a[1]) : BargeLocks.UNKNOWN;
            case "lying":
                return lying(a[0], a[1]);
            case "barge":
                return isBarge(a[0]) ? barge(now.barges.get(a[0]), a[1]) : BargeLocks.UNKNOWN;
            case "margin":
                return isBarge(a[0]) && isGate(a[1], a[2]) ? margin(a[0], a[1], a[2]) : BargeLocks.UNKNOWN;
            case "flow":
                return isGate(a[0], a[1])
                        ? shared(a[0], a[1]) - waterAt(100 + a[0])[WATER] : BargeLocks.UNKNOWN;
            case "account":
                return account(a[0]);
            default:
                return count(a[0]);
        }
    }

    private long water(int place, int what) {
        long[] water = waterAt(place);
        long barges = now.barges.stream().filter(b -> b[PLACE] == place).count();
        long[] told = {level(place), water[WATER], floats(place), barges, water[AREA], water[FLOOR]};
        return in(what, 0, 5) ? told[what] : BargeLocks.BAD_VALUE;
    }

    private long chamber(int chamber, int what) {
        long[] c = now.chambers.get(chamber);
        long gate = c[GATE] < 0 ? BargeLocks.NONE : c[GATE];
        long[] told = {c[LENGTH], lengthLeft(chamber), gate, c[SILL] + c[MUD], c[SILL + 1] + c[MUD + 1],
            c[PASSED], c[PASSED + 1]};
        return in(what, 6, 12) ? told[what - 6] : water(100 + chamber, what);
    }

    private long lying(int chamber, int place) {
        if (!isChamber(chamber)) {
            return BargeLocks.UNKNOWN;
        }
        if (place < 0) {
            return BargeLocks.BAD_VALUE;
        }
        List<Integer> row = now.rows.get(chamber);
        return place < row.size() ? row.get(place) : BargeLocks.NONE;
    }

    private long barge(long[] b, int what) {
        long[] told = {b[LONG], weight(b), draught(b), b[CARGO], b[BALLAST], b[HOLD] - b[CARGO] - b[BALLAST],
            aground(b) ? 1 : 0, b[PLACE], b[TRIPS]};
        return in(what, 0, 8) ? told[what] : BargeLocks.BAD_VALUE;
    }

    /** Tries each weight, from the most that the hold can take. */
    private long margin(int barge, int chamber, int gate) {
        long[] b = now.barges.get(barge);
        long[] c = now.chambers.get(chamber);
        long over = level(100 + chamber) - c[SILL + gate] - c[MUD + gate];
        for (long more = b[HOLD] - b[CARGO] - b[BALLAST]; more >= 0; more--) {
            if (over >= draughtOf(weight(b) + more, b[IMMERSION]) + now.clearance) {
                return more;
            }
        }
        return BargeLocks.NONE;
    }

    private long account(int what) {
        long water = 0;
        long gates = 0;
        for (long[] reach : now.reaches) {
            water += reach[WATER];
        }
        for (long[] c : now.chambers) {
            water += c[WATER];
            gates += c[PASSED] + c[PASSED + 1];
        }
        long[] sums = {0, 0, 0};
        for (long[] b : now.barges) {
            sums[0] += b[BALLAST];
            sums[1] += b[CARGO];
            sums[2] += weight(b);
        }
        long[] told = {water, sums[0], sums[1], sums[2], now.supplied, now.begun, gates};
        return in(what, 0, 6) ? told[what] : BargeLocks.BAD_VALUE;
    }

    private long count(int what) {
        long open = now.chambers.stream().filter(c -> c[GATE] >= 0).count();
        long ground = now.barges.stream().filter(this::aground).count();
        long locked = now.barges.stream().filter(b -> b[PLACE] >= 100).count();
        long[] told = {now.reaches.size(), now.chambers.size(), now.barges.size(), open, ground, locked,
            now.clearance, reason, history.size(), text.length()};
        return in(what, 0, 9) ? told[what] : BargeLocks.BAD_VALUE;
    }
}
