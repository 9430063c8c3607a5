/**
 * A flight of locks with barges: reaches and chambers whose levels follow the water and what
 * floats in them, gates and sluices, barges with cargo and ballast, orders in words, undo and
 * snapshots.
 *
 * <p>The public methods read as the document does: the checks in the order of its answers, then
 * record(), the change, flight.settle(), and the answer.
 */
public final class BargeLocks {
    /** There is no such reach, chamber, gate, barge or slot. */
    public static final int UNKNOWN = -100000001;
    /** Another argument is out of range. */
    public static final int BAD_VALUE = -100000002;
    /** The call is refused, for a reason. */
    public static final int REFUSED = -100000003;
    /** There is no more room. */
    public static final int FULL = -100000004;
    /** There is no such thing; not an error. */
    public static final int NONE = -100000005;

    private static final int REASON_GATE_OPEN = 1;
    private static final int REASON_GATE_CLOSED = 2;
    private static final int REASON_LEVELS_DIFFER = 3;
    private static final int REASON_NOT_THERE = 4;
    private static final int REASON_AGROUND = 5;
    private static final int REASON_TOO_LONG = 6;
    private static final int REASON_TOO_DEEP = 7;
    private static final int REASON_AMOUNT = 8;

    private static final int REACH_LIMIT = 5;
    private static final int CHAMBER_LIMIT = 4;
    private static final int BARGE_LIMIT = 12;
    private static final int HISTORY_LIMIT = 5;
    private static final int SLOT_LIMIT = 2;
    private static final int TEXT_LIMIT = 60;

    private static final int LEAST_AREA = 100;
    private static final int MOST_AREA = 100000;
    private static final int MOST_HEIGHT = 5000;
    private static final int MOST_FIRST_WATER = 10000000;
    private static final int MOST_SUPPLY = 1000000;
    private static final long MOST_WATER = 100000000L;
    private static final int MOST_TONS = 1000;
    private static final int MOST_CLEARANCE = 50;
    private static final int FIRST_CLEARANCE = 10;
    private static final int LEVEL_TOLERANCE = 2;
    private static final int PASSAGES_FOR_MUD = 8;

    /** A barge's place is the number of a reach, or this plus the number of a chamber. */
    private static final int CHAMBER_PLACE = 100;
    private static final int NO_GATE = -1;
    private static final int NO_BARGE = -1;
    private static final int NO_FAULT = -1;
    /** Properties of barges, as barge() numbers them. */
    private static final int BARGE_LENGTH = 0;
    private static final int BARGE_WEIGHT = 1;
    private static final int BARGE_DRAUGHT = 2;
    private static final int BARGE_CARGO = 3;
    private static final int BARGE_BALLAST = 4;
    private static final int BARGE_FREE_HOLD = 5;
    private static final int BARGE_AGROUND = 6;
    private static final int BARGE_PLACE = 7;
    private static final int BARGE_PASSAGES = 8;
    /** A faulty text is answered by this less the index of the fault. */
    private static final int FAULT_BASE = -100;

    private final Flight flight;
    private final History history;
    /** A slot is null as long as it is empty. */
    private final Flight[] slots;
    private final Orders orders;
    private int reason;
    /** While orders are carried out, they are no acts of their own. */
    private boolean carryingOut;

    /** Creates a canal without reaches. */
    public BargeLocks() {
        flight = new Flight();
        history = new History();
        slots = new Flight[SLOT_LIMIT];
        orders = new Orders();
        reason = 0;
        carryingOut = false;
    }

    // ---- the canal

    /** Adds the first reach; returns 0, BAD_VALUE or FULL. */
    public int addReach(int area, int floor, int water) {
        if (!isReach(area, floor, water)) {
            return BAD_VALUE;
        }
        if (flight.reachCount > 0) {
            return FULL;
        }
        record();
        flight.appendReach(area, floor, water);
        flight.settle();
        return 0;
    }

    /** Adds a chamber and the reach above it; returns the chamber, BAD_VALUE or FULL. */
    public int addChamber(int area, int length, int floor, int reachArea, int reachFloor, int reachWater) {
        if (!isBasin(area, floor) || !isWithin(length, 10, 200)) {
            return BAD_VALUE;
        }
        if (!isReach(reachArea, reachFloor, reachWater)) {
            return BAD_VALUE;
        }
        if (flight.reachCount == 0 || flight.chamberCount >= CHAMBER_LIMIT) {
            return FULL;
        }
        record();
        int number = flight.chamberCount;
        flight.appendChamber(area, length, floor);
        flight.appendReach(reachArea, reachFloor, reachWater);
        flight.settle();
        return number;
    }

    /** Sets a sill; returns the previous own height, UNKNOWN or BAD_VALUE. */
    public int setSill(int chamber, int gate, int height) {
        Sill sill = flight.sillAt(chamber, gate);
        if (sill == null) {
            return UNKNOWN;
        }
        if (!isWithin(height, 0, MOST_HEIGHT)) {
            return BAD_VALUE;
        }
        record();
        int previous = sill.ownHeight;
        sill.ownHeight = height;
        flight.settle();
        return previous;
    }

    /** Sets the clearance; returns the previous one, or BAD_VALUE. */
    public int setClearance(int clearance) {
        if (!isWithin(clearance, 0, MOST_CLEARANCE)) {
            return BAD_VALUE;
        }
        record();
        int previous = flight.clearance;
        flight.clearance = clearance;
        flight.settle();
        return previous;
    }

    /** Dredges a sill; returns the mud that it had, UNKNOWN, or NONE if it had none. */
    public int dredge(int chamber, int gate) {
        Sill sill = flight.sillAt(chamber, gate);
        if (sill == null) {
            return UNKNOWN;
        }
        if (sill.mud == 0) {
            return NONE;
        }
        record();
        int had = sill.mud;
        sill.mud = 0;
        flight.settle();
        return had;
    }

    /** Lets water come or go; returns the reach's level then, UNKNOWN, BAD_VALUE or REFUSED. */
    public int supply(int reach, int amount) {
        Water water = flight.reachAt(reach);
        if (water == null) {
            return UNKNOWN;
        }
        if (!isWithin(amount, -MOST_SUPPLY, MOST_SUPPLY)) {
            return BAD_VALUE;
        }
        long then = water.amount + amount;
        if (then < 0 || then > MOST_WATER) {
            return refuse(REASON_AMOUNT);
        }
        record();
        water.amount = then;
        flight.supplied += amount;
        flight.settle();
        return (int) water.level();
    }

    // ---- barges

    /** Adds an empty barge to a reach; returns its number, UNKNOWN, BAD_VALUE or FULL. */
    public int addBarge(int reach, int length, int weight, int immersion, int hold) {
        if (flight.reachAt(reach) == null) {
            return UNKNOWN;
        }
        if (!isWithin(length, 5, 60) || !isWithin(weight, 10, 500)) {
            return BAD_VALUE;
        }
        if (!isWithin(immersion, 1, 20) || !isWithin(hold, 10, 1000)) {
            return BAD_VALUE;
        }
        if (flight.bargeCount >= BARGE_LIMIT) {
            return FULL;
        }
        record();
        int number = flight.bargeCount;
        flight.appendBarge(reach, length, weight, immersion, hold);
        flight.settle();
        return number;
    }

    /** Loads or unloads cargo; returns the draught then, UNKNOWN, BAD_VALUE or REFUSED. */
    public int load(int barge, int tons) {
        Barge loaded = flight.bargeAt(barge);
        if (loaded == null) {
            return UNKNOWN;
        }
        if (!isTons(tons)) {
            return BAD_VALUE;
        }
        Water around = flight.waterAt(loaded.place);
        if (around == null || loaded.isInChamber()) {
            return refuse(REASON_NOT_THERE);
        }
        if (loaded.cargo + tons < 0 || tons > loaded.freeHold()) {
            return refuse(REASON_AMOUNT);
        }
        record();
        loaded.cargo += tons;
        around.floats += tons;
        flight.settle();
        return loaded.draught();
    }

    /** Pumps ballast in or out; returns the draught then, UNKNOWN, BAD_VALUE or REFUSED. */
    public int pump(int barge, int tons) {
        Barge pumped = flight.bargeAt(barge);
        if (pumped == null) {
            return UNKNOWN;
        }
        if (!isTons(tons)) {
            return BAD_VALUE;
        }
        Water around = flight.waterAt(pumped.place);
        if (around == null || tons > around.amount) {
            return refuse(REASON_AMOUNT);
        }
        if (pumped.ballast + tons < 0 || tons > pumped.freeHold()) {
            return refuse(REASON_AMOUNT);
        }
        record();
        pumped.ballast += tons;
        around.floats += tons;
        around.amount -= tons;
        flight.settle();
        return pumped.draught();
    }

    // ---- locking

    /** Fills or empties a chamber; returns its level then, UNKNOWN or REFUSED. */
    public int sluice(int chamber, int gate) {
        Chamber lock = flight.chamberAt(chamber);
        Water behind = flight.reachBehind(chamber, gate);
        if (lock == null || behind == null) {
            return UNKNOWN;
        }
        if (lock.openGate != NO_GATE) {
            return refuse(REASON_GATE_OPEN);
        }
        record();
        lock.water.shareWith(behind);
        flight.settle();
        return (int) lock.water.level();
    }

    /** Opens a gate; returns the level of the chamber then, UNKNOWN or REFUSED. */
    public int open(int chamber, int gate) {
        Chamber lock = flight.chamberAt(chamber);
        Water behind = flight.reachBehind(chamber, gate);
        if (lock == null || behind == null) {
            return UNKNOWN;
        }
        if (lock.openGate != NO_GATE) {
            return refuse(REASON_GATE_OPEN);
        }
        if (Math.abs(lock.water.level() - behind.level()) > LEVEL_TOLERANCE) {
            return refuse(REASON_LEVELS_DIFFER);
        }
        record();
        lock.openGate = gate;
        flight.settle();
        return (int) lock.water.level();
    }

    /** Closes the open gate of a chamber; returns the gate, UNKNOWN or REFUSED. */
    public int close(int chamber) {
        Chamber lock = flight.chamberAt(chamber);
        if (lock == null) {
            return UNKNOWN;
        }
        if (lock.openGate == NO_GATE) {
            return refuse(REASON_GATE_CLOSED);
        }
        record();
        int gate = lock.openGate;
        lock.openGate = NO_GATE;
        flight.settle();
        return gate;
    }

    /** A barge enters by the open gate; returns the length that is left, UNKNOWN or REFUSED. */
    public int enter(int barge, int chamber) {
        Barge entering = flight.bargeAt(barge);
        Chamber lock = flight.chamberAt(chamber);
        if (entering == null || lock == null) {
            return UNKNOWN;
        }
        Sill sill = lock.sillOf(lock.openGate);
        if (sill == null) {
            return refuse(REASON_GATE_CLOSED);
        }
        if (entering.place != chamber + lock.openGate) {
            return refuse(REASON_NOT_THERE);
        }
        if (flight.isAground(entering)) {
            return refuse(REASON_AGROUND);
        }
        if (entering.length > lock.lengthLeft) {
            return refuse(REASON_TOO_LONG);
        }
        if (entering.draught() > flight.mostDraught(lock, sill)) {
            return refuse(REASON_TOO_DEEP);
        }
        record();
        lock.takeIn(barge, entering.length, lock.openGate);
        flight.move(entering, CHAMBER_PLACE + chamber);
        sill.countPassage();
        flight.settle();
        return lock.lengthLeft;
    }

    /** The barge next to a gate leaves by it; returns the barge, UNKNOWN or REFUSED. */
    public int leave(int chamber, int gate) {
        Chamber lock = flight.chamberAt(chamber);
        Sill sill = flight.sillAt(chamber, gate);
        if (lock == null || sill == null) {
            return UNKNOWN;
        }
        if (lock.openGate != gate) {
            return refuse(REASON_GATE_CLOSED);
        }
        int number = lock.bargeNextTo(gate);
        Barge leaving = flight.bargeAt(number);
        if (leaving == null) {
            return refuse(REASON_NOT_THERE);
        }
        if (flight.isAground(leaving)) {
            return refuse(REASON_AGROUND);
        }
        if (leaving.draught() > flight.mostDraught(lock, sill)) {
            return refuse(REASON_TOO_DEEP);
        }
        record();
        lock.letOut(leaving.length, gate);
        flight.move(leaving, chamber + gate);
        sill.countPassage();
        flight.settle();
        return number;
    }

    // ---- orders

    /** Appends a character to the text; returns its length then, or FULL. */
    public int type(char character) {
        return orders.append(character);
    }

    /** Empties the text; returns the length that it had. */
    public int clearText() {
        return orders.removeAll();
    }

    /** Carries out the orders; returns how many were, or -100 minus the fault of the text. */
    public int runOrders() {
        int fault = orders.findFault();
        if (fault != NO_FAULT) {
            return FAULT_BASE - fault;
        }
        record();
        carryingOut = true;
        orders.rewind();
        int carriedOut = 0;
        // An order answers less than 0 only by an error.
        while (carriedOut < TEXT_LIMIT && orders.hasMore() && orders.readOrder() && carryOut() >= 0) {
            carriedOut++;
        }
        carryingOut = false;
        // Each order has settled the waters; the act as a whole does so once more.
        flight.settle();
        return carriedOut;
    }

    // ---- history

    /** Restores the latest state of the history; returns how many are left, or NONE. */
    public int undo() {
        if (history.size == 0) {
            return NONE;
        }
        history.takeLatest(flight);
        return history.size;
    }

    /** Takes a snapshot into a slot; returns the number of barges, or UNKNOWN. */
    public int keep(int slot) {
        if (slot < 0 || slot >= slots.length) {
            return UNKNOWN;
        }
        Flight snapshot = slots[slot];
        if (snapshot == null) {
            snapshot = new Flight();
            slots[slot] = snapshot;
        }
        flight.copyTo(snapshot);
        return flight.bargeCount;
    }

    /** Restores the state of a slot; returns the number of barges then, UNKNOWN or NONE. */
    public int restore(int slot) {
        if (slot < 0 || slot >= slots.length) {
            return UNKNOWN;
        }
        Flight snapshot = slots[slot];
        if (snapshot == null) {
            return NONE;
        }
        record();
        snapshot.copyTo(flight);
        return flight.bargeCount;
    }

    // ---- what is told

    /** Returns a property of a reach, UNKNOWN or BAD_VALUE. */
    public int reach(int reach, int what) {
        Water water = flight.reachAt(reach);
        if (water == null) {
            return UNKNOWN;
        }
        return water.property(what);
    }

    /** Returns a property of a chamber, UNKNOWN or BAD_VALUE. */
    public int chamber(int chamber, int what) {
        Chamber lock = flight.chamberAt(chamber);
        if (lock == null) {
            return UNKNOWN;
        }
        switch (what) {
            case 6:
                return lock.length;
            case 7:
                return lock.lengthLeft;
            case 8:
                return lock.openGate == NO_GATE ? NONE : lock.openGate;
            case 9:
                return lock.lowerSill.height();
            case 10:
                return lock.upperSill.height();
            case 11:
                return lock.lowerSill.passages;
            case 12:
                return lock.upperSill.passages;
            default:
                return lock.water.property(what);
        }
    }

    /** Returns the barge at a place in a chamber's row, UNKNOWN, BAD_VALUE or NONE. */
    public int lying(int chamber, int place) {
        Chamber lock = flight.chamberAt(chamber);
        if (lock == null) {
            return UNKNOWN;
        }
        if (place < 0) {
            return BAD_VALUE;
        }
        int number = lock.bargeIn(place);
        return number == NO_BARGE ? NONE : number;
    }

    /** Returns a property of a barge, UNKNOWN or BAD_VALUE. */
    public int barge(int barge, int what) {
        Barge told = flight.bargeAt(barge);
        if (told == null) {
            return UNKNOWN;
        }
        return flight.propertyOf(told, what);
    }

    /** Returns the tons that a barge could have more and still pass a gate, UNKNOWN or NONE. */
    public int margin(int barge, int chamber, int gate) {
        Barge passing = flight.bargeAt(barge);
        Chamber lock = flight.chamberAt(chamber);
        Sill sill = flight.sillAt(chamber, gate);
        if (passing == null || lock == null || sill == null) {
            return UNKNOWN;
        }
        long mostWeight = flight.mostDraught(lock, sill) * passing.immersion;
        if (passing.weight() > mostWeight) {
            return NONE;
        }
        return (int) Math.min(mostWeight - passing.weight(), (long) passing.freeHold());
    }

    /** Returns the water that would flow into a chamber by the sluices of a gate, or UNKNOWN. */
    public int flow(int chamber, int gate) {
        Chamber lock = flight.chamberAt(chamber);
        Water behind = flight.reachBehind(chamber, gate);
        if (lock == null || behind == null) {
            return UNKNOWN;
        }
        return (int) lock.water.flowFrom(behind);
    }

    /** Returns an account of the whole canal, or BAD_VALUE. */
    public long account(int what) {
        switch (what) {
            case 0:
                return flight.allWater();
            case 1:
                return flight.sumOfBarges(BARGE_BALLAST);
            case 2:
                return flight.sumOfBarges(BARGE_CARGO);
            case 3:
                return flight.sumOfBarges(BARGE_WEIGHT);
            case 4:
                return flight.supplied;
            case 5:
                return flight.firstWater;
            case 6:
                // Each passage by a gate is one of a barge, too.
                return flight.sumOfBarges(BARGE_PASSAGES);
            default:
                return BAD_VALUE;
        }
    }

    /** Returns a number of the canal, or BAD_VALUE. */
    public int count(int what) {
        switch (what) {
            case 0:
                return flight.reachCount;
            case 1:
                return flight.chamberCount;
            case 2:
                return flight.bargeCount;
            case 3:
                return flight.openGates();
            case 4:
                return (int) flight.sumOfBarges(BARGE_AGROUND);
            case 5:
                return flight.bargesInChambers();
            case 6:
                return flight.clearance;
            case 7:
                return reason;
            case 8:
                return history.size;
            case 9:
                return orders.length;
            default:
                return BAD_VALUE;
        }
    }

    // ---- helpers

    private static boolean isWithin(int value, int least, int most) {
        return value >= least && value <= most;
    }

    private static boolean isBasin(int area, int floor) {
        return isWithin(area, LEAST_AREA, MOST_AREA) && isWithin(floor, 0, MOST_HEIGHT);
    }

    private static boolean isReach(int area, int floor, int water) {
        return isBasin(area, floor) && isWithin(water, 0, MOST_FIRST_WATER);
    }

    private static boolean isTons(int tons) {
        return tons != 0 && isWithin(tons, -MOST_TONS, MOST_TONS);
    }

    /** Rounds down, also below 0, as Java's own division does not. No divisor here is under 1. */
    private static long divideDown(long dividend, long divisor) {
        return divisor < 1 ? 0 : Math.floorDiv(dividend, divisor);
    }

    private int refuse(int newReason) {
        reason = newReason;
        return REFUSED;
    }

    private void record() {
        if (!carryingOut) {
            history.add(flight);
        }
    }

    private int carryOut() {
        switch (orders.verb) {
            case Orders.SLUICE:
                return sluice(orders.first, orders.second);
            case Orders.OPEN:
                return open(orders.first, orders.second);
            case Orders.CLOSE:
                return close(orders.first);
            case Orders.ENTER:
                return enter(orders.first, orders.second);
            case Orders.LEAVE:
                return leave(orders.first, orders.second);
            case Orders.LOAD:
                return load(orders.first, orders.second);
            case Orders.PUMP:
                return pump(orders.first, orders.second);
            default:
                return UNKNOWN;
        }
    }

    /** The water of a reach or a chamber, with what its barges add to it. */
    private static final class Water {
        long area;
        long floor;
        long amount;
        /** The weights of its barges together. */
        long floats;
        int bargeCount;

        void begin(int newArea, int newFloor, int newAmount) {
            area = newArea;
            floor = newFloor;
            amount = newAmount;
            floats = 0;
            bargeCount = 0;
        }

        long depth() {
            return divideDown((amount + floats) * 100, area);
        }

        long level() {
            return floor + depth();
        }

        void takeIn(int weight) {
            floats += weight;
            bargeCount++;
        }

        void letOut(int weight) {
            floats -= weight;
            bargeCount--;
        }

        /** What this water, a chamber's, would get from a reach by sharing (less than 0: lose). */
        long flowFrom(Water reach) {
            long bothWaters = amount + reach.amount;
            long sum = bothWaters + floats + reach.floats;
            long bottoms = area * floor + reach.area * reach.floor;
            long height = divideDown(sum * 100 + bottoms, area + reach.area);
            long due = divideDown(area * (height - floor), 100) - floats;
            return Math.min(Math.max(due, 0L), bothWaters) - amount;
        }

        void shareWith(Water reach) {
            long inflow = flowFrom(reach);
            amount += inflow;
            reach.amount -= inflow;
        }

        int property(int what) {
            switch (what) {
                case 0:
                    return (int) level();
                case 1:
                    return (int) amount;
                case 2:
                    return (int) floats;
                case 3:
                    return bargeCount;
                case 4:
                    return (int) area;
                case 5:
                    return (int) floor;
                default:
                    return BAD_VALUE;
            }
        }

        void copyTo(Water other) {
            other.area = area;
            other.floor = floor;
            other.amount = amount;
            other.floats = floats;
            other.bargeCount = bargeCount;
        }
    }

    /** The sill at a gate, with the passages by this gate. */
    private static final class Sill {
        int ownHeight;
        int mud;
        int passages;

        void begin() {
            ownHeight = 0;
            mud = 0;
            passages = 0;
        }

        int height() {
            return ownHeight + mud;
        }

        void countPassage() {
            passages++;
            if (passages % PASSAGES_FOR_MUD == 0) {
                mud++;
            }
        }

        void copyTo(Sill other) {
            other.ownHeight = ownHeight;
            other.mud = mud;
            other.passages = passages;
        }
    }

    /** A chamber, with the row of its barges from the gate 0 to the gate 1. */
    private static final class Chamber {
        final Water water;
        final Sill lowerSill;
        final Sill upperSill;
        final int[] row;
        int rowSize;
        int length;
        int lengthLeft;
        int openGate;

        Chamber() {
            water = new Water();
            lowerSill = new Sill();
            upperSill = new Sill();
            row = new int[BARGE_LIMIT];
            begin(0, 0, 0);
        }

        void begin(int area, int newLength, int floor) {
            water.begin(area, floor, 0);
            lowerSill.begin();
            upperSill.begin();
            rowSize = 0;
            length = newLength;
            lengthLeft = newLength;
            openGate = NO_GATE;
        }

        /** The sill at a gate, or null if there is no such gate. */
        Sill sillOf(int gate) {
            if (gate == 0) {
                return lowerSill;
            }
            return gate == 1 ? upperSill : null;
        }

        /** The barge at a place of the row, or NO_BARGE. */
        int bargeIn(int place) {
            return place >= 0 && place < rowSize && place < row.length ? row[place] : NO_BARGE;
        }

        int bargeNextTo(int gate) {
            return bargeIn(gate == 0 ? 0 : rowSize - 1);
        }

        void takeIn(int barge, int bargeLength, int gate) {
            if (rowSize < 0 || rowSize >= row.length) {
                return;
            }
            int place = rowSize;
            if (gate == 0) {
                System.arraycopy(row, 0, row, 1, rowSize);
                place = 0;
            }
            row[place] = barge;
            rowSize++;
            lengthLeft -= bargeLength;
        }

        void letOut(int bargeLength, int gate) {
            if (rowSize < 1 || rowSize > row.length) {
                return;
            }
            rowSize--;
            lengthLeft += bargeLength;
            if (gate == 0) {
                System.arraycopy(row, 1, row, 0, rowSize);
            }
        }

        void copyTo(Chamber other) {
            water.copyTo(other.water);
            lowerSill.copyTo(other.lowerSill);
            upperSill.copyTo(other.upperSill);
            System.arraycopy(row, 0, other.row, 0, Math.min(row.length, other.row.length));
            other.rowSize = rowSize;
            other.length = length;
            other.lengthLeft = lengthLeft;
            other.openGate = openGate;
        }
    }

    /** A barge. */
    private static final class Barge {
        int length;
        int ownWeight;
        int immersion;
        int hold;
        int cargo;
        int ballast;
        int place;
        int passages;

        void begin(int newPlace, int newLength, int weight, int newImmersion, int newHold) {
            length = newLength;
            ownWeight = weight;
            immersion = newImmersion;
            hold = newHold;
            cargo = 0;
            ballast = 0;
            place = newPlace;
            passages = 0;
        }

        int weight() {
            return ownWeight + cargo + ballast;
        }

        int draught() {
            return (int) divideDown((long) weight() + immersion - 1, immersion);
        }

        int freeHold() {
            return hold - cargo - ballast;
        }

        boolean isInChamber() {
            return place >= CHAMBER_PLACE;
        }

        void copyTo(Barge other) {
            other.length = length;
            other.ownWeight = ownWeight;
            other.immersion = immersion;
            other.hold = hold;
            other.cargo = cargo;
            other.ballast = ballast;
            other.place = place;
            other.passages = passages;
        }
    }

    /** A state of the canal: all that undo() and restore() bring back. */
    private static final class Flight {
        final Water[] reaches;
        final Chamber[] chambers;
        final Barge[] barges;
        int reachCount;
        int chamberCount;
        int bargeCount;
        int clearance;
        long supplied;
        long firstWater;

        Flight() {
            reaches = new Water[REACH_LIMIT];
            chambers = new Chamber[CHAMBER_LIMIT];
            barges = new Barge[BARGE_LIMIT];
            for (int i = 0; i < reaches.length; i++) {
                reaches[i] = new Water();
            }
            for (int i = 0; i < chambers.length; i++) {
                chambers[i] = new Chamber();
            }
            for (int i = 0; i < barges.length; i++) {
                barges[i] = new Barge();
            }
            reachCount = 0;
            chamberCount = 0;
            bargeCount = 0;
            clearance = FIRST_CLEARANCE;
            supplied = 0;
            firstWater = 0;
        }

        // What is there, or null.

        Water reachAt(int number) {
            boolean there = number >= 0 && number < reachCount && number < reaches.length;
            return there ? reaches[number] : null;
        }

        Chamber chamberAt(int number) {
            boolean there = number >= 0 && number < chamberCount && number < chambers.length;
            return there ? chambers[number] : null;
        }

        Barge bargeAt(int number) {
            boolean there = number >= 0 && number < bargeCount && number < barges.length;
            return there ? barges[number] : null;
        }

        Sill sillAt(int chamber, int gate) {
            Chamber lock = chamberAt(chamber);
            return lock == null ? null : lock.sillOf(gate);
        }

        Water reachBehind(int chamber, int gate) {
            return sillAt(chamber, gate) == null ? null : reachAt(chamber + gate);
        }

        Water waterAt(int place) {
            if (place < CHAMBER_PLACE) {
                return reachAt(place);
            }
            Chamber lock = chamberAt(place - CHAMBER_PLACE);
            return lock == null ? null : lock.water;
        }

        // What comes new; the caller has seen that there is room.

        void appendReach(int area, int floor, int amount) {
            reachCount++;
            Water reach = reachAt(reachCount - 1);
            if (reach != null) {
                reach.begin(area, floor, amount);
                firstWater += amount;
            }
        }

        void appendChamber(int area, int length, int floor) {
            chamberCount++;
            Chamber lock = chamberAt(chamberCount - 1);
            if (lock != null) {
                lock.begin(area, length, floor);
            }
        }

        void appendBarge(int place, int length, int weight, int immersion, int hold) {
            bargeCount++;
            Barge barge = bargeAt(bargeCount - 1);
            Water around = waterAt(place);
            if (barge != null && around != null) {
                barge.begin(place, length, weight, immersion, hold);
                around.takeIn(weight);
            }
        }

        // What goes on.

        boolean isAground(Barge barge) {
            Water around = waterAt(barge.place);
            return around != null && around.depth() < barge.draught();
        }

        /** The most draught that can pass a sill of a chamber; it can be less than 0. */
        long mostDraught(Chamber lock, Sill sill) {
            return lock.water.level() - sill.height() - clearance;
        }

        /** A passage: the barge comes from its water to the one at another place. */
        void move(Barge barge, int place) {
            Water from = waterAt(barge.place);
            Water to = waterAt(place);
            if (from == null || to == null) {
                return;
            }
            from.letOut(barge.weight());
            to.takeIn(barge.weight());
            barge.place = place;
            barge.passages++;
        }

        /** Behind an act, each chamber with an open gate shares once, in ascending order. */
        void settle() {
            for (int i = 0; i < chamberCount; i++) {
                Chamber lock = chamberAt(i);
                if (lock != null) {
                    Water behind = reachBehind(i, lock.openGate);
                    if (behind != null) {
                        lock.water.shareWith(behind);
                    }
                }
            }
        }

        // What is told.

        int propertyOf(Barge barge, int what) {
            switch (what) {
                case BARGE_LENGTH:
                    return barge.length;
                case BARGE_WEIGHT:
                    return barge.weight();
                case BARGE_DRAUGHT:
                    return barge.draught();
                case BARGE_CARGO:
                    return barge.cargo;
                case BARGE_BALLAST:
                    return barge.ballast;
                case BARGE_FREE_HOLD:
                    return barge.freeHold();
                case BARGE_AGROUND:
                    return isAground(barge) ? 1 : 0;
                case BARGE_PLACE:
                    return barge.place;
                case BARGE_PASSAGES:
                    return barge.passages;
                default:
                    return BAD_VALUE;
            }
        }

        long sumOfBarges(int what) {
            long sum = 0;
            for (int i = 0; i < bargeCount; i++) {
                Barge barge = bargeAt(i);
                if (barge != null) {
                    sum += propertyOf(barge, what);
                }
            }
            return sum;
        }

        long allWater() {
            long sum = 0;
            for (int i = 0; i < reachCount; i++) {
                Water reach = reachAt(i);
                Chamber lock = chamberAt(i);
                sum += reach == null ? 0 : reach.amount;
                sum += lock == null ? 0 : lock.water.amount;
            }
            return sum;
        }

        int openGates() {
            int number = 0;
            for (int i = 0; i < chamberCount; i++) {
                Chamber lock = chamberAt(i);
                if (lock != null && lock.openGate != NO_GATE) {
                    number++;
                }
            }
            return number;
        }

        int bargesInChambers() {
            int number = 0;
            for (int i = 0; i < chamberCount; i++) {
                Chamber lock = chamberAt(i);
                number += lock == null ? 0 : lock.rowSize;
            }
            return number;
        }

        /** Copies in place, so that no call needs new rows. */
        void copyTo(Flight other) {
            for (int i = 0; i < reaches.length && i < other.reaches.length; i++) {
                if (reaches[i] != null && other.reaches[i] != null) {
                    reaches[i].copyTo(other.reaches[i]);
                }
            }
            for (int i = 0; i < chambers.length && i < other.chambers.length; i++) {
                if (chambers[i] != null && other.chambers[i] != null) {
                    chambers[i].copyTo(other.chambers[i]);
                }
            }
            for (int i = 0; i < barges.length && i < other.barges.length; i++) {
                if (barges[i] != null && other.barges[i] != null) {
                    barges[i].copyTo(other.barges[i]);
                }
            }
            other.reachCount = reachCount;
            other.chamberCount = chamberCount;
            other.bargeCount = bargeCount;
            other.clearance = clearance;
            other.supplied = supplied;
            other.firstWater = firstWater;
        }
    }

    /** The latest states, in a ring, so that dropping the oldest one moves none of the others. */
    private static final class History {
        final Flight[] ring;
        int oldest;
        int size;

        History() {
            ring = new Flight[HISTORY_LIMIT];
            for (int i = 0; i < ring.length; i++) {
                ring[i] = new Flight();
            }
            oldest = 0;
            size = 0;
        }

        /** The state that stands so many behind the oldest one, or null. */
        Flight stateAt(int behindOldest) {
            int index = (oldest + behindOldest) % HISTORY_LIMIT;
            return index >= 0 && index < ring.length ? ring[index] : null;
        }

        void add(Flight flight) {
            if (size == HISTORY_LIMIT) {
                oldest = (oldest + 1) % HISTORY_LIMIT;
                size--;
            }
            Flight cell = stateAt(size);
            if (cell != null) {
                flight.copyTo(cell);
                size++;
            }
        }

        void takeLatest(Flight flight) {
            if (size == 0) {
                return;
            }
            size--;
            Flight latest = stateAt(size);
            if (latest != null) {
                latest.copyTo(flight);
            }
        }
    }

    /** The text of orders, and a reader that goes through it. */
    private static final class Orders {
        static final int NO_VERB = -1;
        static final int SLUICE = 0;
        static final int OPEN = 1;
        static final int CLOSE = 2;
        static final int ENTER = 3;
        static final int LEAVE = 4;
        static final int LOAD = 5;
        static final int PUMP = 6;
        static final int VERB_COUNT = 7;
        static final int NO_NUMBER = -1;
        static final int MOST_DIGITS = 3;

        final char[] text;
        int length;
        /** Where the reader stands; behind a failed reading, the index of the fault. */
        int position;
        /** The order that was read last. */
        int verb;
        int first;
        int second;

        Orders() {
            text = new char[TEXT_LIMIT];
            length = 0;
            position = 0;
            verb = NO_VERB;
            first = NO_NUMBER;
            second = NO_NUMBER;
        }

        int append(char character) {
            if (length < 0 || length >= text.length) {
                return FULL;
            }
            text[length] = character;
            length++;
            return length;
        }

        int removeAll() {
            int had = length;
            length = 0;
            return had;
        }

        void rewind() {
            position = 0;
        }

        boolean hasMore() {
            return position < length;
        }

        /** The index of the first fault of the text, or NO_FAULT. */
        int findFault() {
            rewind();
            boolean right = readOrder();
            for (int i = 0; i < TEXT_LIMIT && right && hasMore(); i++) {
                right = readOrder();
            }
            return right ? NO_FAULT : position;
        }

        /** Reads an order, and the ";" ahead of it if it is not the first one. */
        boolean readOrder() {
            if (position > 0 && !readSign(';')) {
                return false;
            }
            readVerb();
            switch (verb) {
                case SLUICE:
                case OPEN:
                case LEAVE:
                    return readFirst(CHAMBER_LIMIT - 1) && readSecond(0, 1);
                case CLOSE:
                    return readFirst(CHAMBER_LIMIT - 1);
                case ENTER:
                    return readFirst(BARGE_LIMIT - 1) && readSecond(0, CHAMBER_LIMIT - 1);
                case LOAD:
                case PUMP:
                    return readFirst(BARGE_LIMIT - 1) && readSecond(1, 999);
                default:
                    return false;
            }
        }

        private void readVerb() {
            int end = endOfToken();
            verb = NO_VERB;
            for (int i = 0; i < VERB_COUNT; i++) {
                if (stands(wordOf(i), end)) {
                    verb = i;
                }
            }
            if (verb != NO_VERB) {
                position = end;
            }
        }

        private boolean readFirst(int most) {
            first = readNumber(0, most);
            return first != NO_NUMBER;
        }

        private boolean readSecond(int least, int most) {
            second = readNumber(least, most);
            return second != NO_NUMBER;
        }

        private int readNumber(int least, int most) {
            if (!readSign(' ')) {
                return NO_NUMBER;
            }
            int end = endOfToken();
            if (end == position || end - position > MOST_DIGITS) {
                return NO_NUMBER;
            }
            int value = 0;
            for (int i = position; i < end; i++) {
                char digit = signAt(i);
                if (digit < '0' || digit > '9') {
                    return NO_NUMBER;
                }
                value = value * 10 + (digit - '0');
            }
            if (!isWithin(value, least, most)) {
                return NO_NUMBER;
            }
            position = end;
            return value;
        }

        private boolean readSign(char sign) {
            if (!hasMore() || signAt(position) != sign) {
                return false;
            }
            position++;
            return true;
        }

        /** A word or number goes up to the next blank, ";" or the end of the text. */
        private int endOfToken() {
            int end = position;
            while (end < length && signAt(end) != ' ' && signAt(end) != ';') {
                end++;
            }
            return end;
        }

        private boolean stands(String word, int end) {
            if (word.length() != end - position) {
                return false;
            }
            for (int i = 0; i < word.length(); i++) {
                if (signAt(position + i) != word.charAt(i)) {
                    return false;
                }
            }
            return true;
        }

        private char signAt(int index) {
            return index >= 0 && index < length && index < text.length ? text[index] : (char) 0;
        }

        private static String wordOf(int verb) {
            switch (verb) {
                case SLUICE:
                    return "sluice";
                case OPEN:
                    return "open";
                case CLOSE:
                    return "close";
                case ENTER:
                    return "enter";
                case LEAVE:
                    return "leave";
                case LOAD:
                    return "load";
                case PUMP:
                    return "pump";
                default:
                    // No text holds an empty word where an order stands.
                    return "";
            }
        }
    }
}
