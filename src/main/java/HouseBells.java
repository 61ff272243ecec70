/** A board of house bells. */
public final class HouseBells {
    private static final int NONE = -1;
    private static final int MOST_ROOMS = 12;
    private static final int HIGHEST_FLOOR = 5;
    private static final int MOST_PATIENCE = 9;
    private static final int MOST_NEED = 9;
    private static final int MOST_SERVANTS = 6;
    private static final int FASTEST_PACE = 4;
    private static final int FIRST_CHARGE = 200;
    private static final int MOST_CHARGE = 500;
    private static final int GIVES_UP_AFTER = 30;
    private static final int MOST_MINUTES = 60;
    private static final int CROSSING_MINUTES = 40;
    private static final int DIGEST_MINUTES = 20;
    private static final long DIGEST_START = 2377;

    private final House house;
    /** A second house, made once, in which one can try what would be without changing the first. */
    private final House trial;

    public HouseBells() {
        house = new House();
        trial = new House();
    }

    // ---- the house

    public int addRoom(int floor, int patience, int need)
            throws IllegalArgumentException, IllegalStateException {
        if (!isWithin(floor, 0, HIGHEST_FLOOR) || !isWithin(patience, 1, MOST_PATIENCE)
                || !isWithin(need, 1, MOST_NEED)) {
            throw new IllegalArgumentException("no such floor, patience or need");
        }
        if (house.roomCount >= MOST_ROOMS) {
            throw new IllegalStateException("the house has all its rooms");
        }
        return house.openRoom(floor, patience, need);
    }

    public int addServant(int pace) throws IllegalArgumentException, IllegalStateException {
        if (!isWithin(pace, 1, FASTEST_PACE)) {
            throw new IllegalArgumentException("no such pace");
        }
        if (house.staff.count >= MOST_SERVANTS) {
            throw new IllegalStateException("the house has all its servants");
        }
        return house.staff.hire(pace);
    }

    public boolean ring(int room) throws IndexOutOfBoundsException {
        requireRoom(room);
        boolean heard = house.pullBell(room);
        if (!house.isWaiting(room)) {
            house.waited.set(room, 0);
        }
        return heard;
    }

    public int cross(int one, int other) throws IndexOutOfBoundsException, IllegalArgumentException {
        requireRoom(one);
        requireRoom(other);
        if (one == other) {
            throw new IllegalArgumentException("a wire is not crossed with itself");
        }
        house.swapWires(one, other);
        return house.wire.get(one);
    }

    public int cut(int room) throws IndexOutOfBoundsException, IllegalStateException {
        requireRoom(room);
        if (house.isWireCut(room)) {
            throw new IllegalStateException("the wire is cut already");
        }
        house.cut.set(room, 1);
        return house.countCutWires();
    }

    public int mend(int room) throws IndexOutOfBoundsException, IllegalStateException {
        requireRoom(room);
        if (!house.isWireCut(room)) {
            throw new IllegalStateException("the wire is whole already");
        }
        house.cut.set(room, 0);
        return house.countCutWires();
    }

    public int recharge(int charge) throws IllegalArgumentException {
        if (!isWithin(charge, 0, MOST_CHARGE)) {
            throw new IllegalArgumentException("no such charge");
        }
        int before = house.charge;
        house.charge = charge;
        return before;
    }

    public int putUp(int drop) throws IndexOutOfBoundsException, IllegalStateException {
        requireRoom(drop);
        if (house.line.placeOf(drop) == NONE) {
            throw new IllegalStateException("the drop stands already");
        }
        house.line.remove(drop);
        return house.line.count;
    }

    public int pass(int minutes) throws IllegalArgumentException {
        requireMinutes(minutes);
        int begun = 0;
        for (int gone = 0; gone < minutes; gone++) {
            begun += house.letMinuteGoBy();
        }
        return begun;
    }

    // ---- what there is

    public int minute() {
        return house.minute;
    }

    public int rooms() {
        return house.roomCount;
    }

    public int servants() {
        return house.staff.count;
    }

    public int charge() {
        return house.charge;
    }

    public int served() {
        return house.served;
    }

    public int inVain() {
        return house.inVain;
    }

    public int gaveUp() {
        return house.gaveUp;
    }

    public int unheard() {
        return house.unheard;
    }

    // ---- rooms and wires

    public int dropOf(int room) throws IndexOutOfBoundsException {
        requireRoom(room);
        return house.wire.get(room);
    }

    public int roomOf(int drop) throws IndexOutOfBoundsException {
        requireRoom(drop);
        for (int room = 0; room < house.roomCount; room++) {
            if (house.wire.get(room) == drop) {
                return room;
            }
        }
        return NONE;
    }

    public boolean isCut(int room) throws IndexOutOfBoundsException {
        requireRoom(room);
        return house.isWireCut(room);
    }

    public int waitedFor(int room) throws IndexOutOfBoundsException {
        requireRoom(room);
        return house.waited.get(room);
    }

    public int longestWaiting() {
        int longest = NONE;
        int most = NONE;
        for (int room = 0; room < house.roomCount; room++) {
            if (house.waited.get(room) > most) {
                most = house.waited.get(room);
                longest = room;
            }
        }
        return longest;
    }

    public int crossed() {
        int count = 0;
        for (int room = 0; room < house.roomCount; room++) {
            if (house.wire.get(room) != room) {
                count++;
            }
        }
        return count;
    }

    public int crossingsNeeded() {
        int needed = 0;
        for (int room = 0; room < house.roomCount; room++) {
            // A crossing parts one circle of wires in two at best, so a circle needs one less than its wires.
            if (!house.isFirstOfItsCircle(room)) {
                needed++;
            }
        }
        return needed;
    }

    // ---- the board

    public int fallen() {
        return house.line.count;
    }

    public boolean hasFallen(int drop) throws IndexOutOfBoundsException {
        requireRoom(drop);
        return house.line.placeOf(drop) != NONE;
    }

    public int placeInLine(int drop) throws IndexOutOfBoundsException {
        requireRoom(drop);
        return house.line.placeOf(drop);
    }

    public int nextDrop() {
        return house.line.first();
    }

    public int ringsLeft(int room) throws IndexOutOfBoundsException {
        requireRoom(room);
        return house.isWireCut(room) ? 0 : quotient(house.charge, House.costFrom(house.floor.get(room)));
    }

    // ---- servants

    public int floorOf(int servant) throws IndexOutOfBoundsException {
        requireServant(servant);
        return house.staff.floor.get(servant);
    }

    public int goesTo(int servant) throws IndexOutOfBoundsException {
        requireServant(servant);
        return house.staff.goal.get(servant);
    }

    public int serves(int servant) throws IndexOutOfBoundsException {
        requireServant(servant);
        return house.staff.guest.get(servant);
    }

    public int minutesLeft(int servant) throws IndexOutOfBoundsException {
        requireServant(servant);
        return house.staff.left.get(servant);
    }

    public int wayTo(int servant, int room) throws IndexOutOfBoundsException {
        requireServant(servant);
        requireRoom(room);
        return house.staff.wayToFloor(servant, house.floor.get(room));
    }

    public int nearestIdle(int room) throws IndexOutOfBoundsException {
        requireRoom(room);
        return house.staff.nearestTo(house.floor.get(room));
    }

    // ---- what would be

    public int minutesUntilServed(int room) throws IndexOutOfBoundsException {
        requireRoom(room);
        trial.copyFrom(house);
        for (int gone = 0; gone <= MOST_MINUTES; gone++) {
            if (trial.staff.isServing(room)) {
                return gone;
            }
            // Without a ring by hand, a room that does not wait will not wait again.
            if (!trial.isWaiting(room)) {
                return NONE;
            }
            trial.letMinuteGoBy();
        }
        return NONE;
    }

    public int servedIn(int minutes) throws IllegalArgumentException {
        requireMinutes(minutes);
        trial.copyFrom(house);
        return serveInTrial(minutes);
    }

    public int bestToCross(int room) throws IndexOutOfBoundsException {
        requireRoom(room);
        trial.copyFrom(house);
        int most = serveInTrial(CROSSING_MINUTES);
        int best = NONE;
        for (int other = 0; other < house.roomCount; other++) {
            if (other == room) {
                continue;
            }
            trial.copyFrom(house);
            trial.swapWires(room, other);
            int begun = serveInTrial(CROSSING_MINUTES);
            if (begun > most) {
                most = begun;
                best = other;
            }
        }
        return best;
    }

    public double meanWait() {
        int sum = 0;
        int waiting = 0;
        for (int room = 0; room < house.roomCount; room++) {
            if (house.isWaiting(room)) {
                sum += house.waited.get(room);
                waiting++;
            }
        }
        return waiting == 0 ? 0 : (double) sum / waiting;
    }

    public long digest() {
        long d = DIGEST_START;
        d = mix(d, minute());
        d = mix(d, rooms());
        d = mix(d, servants());
        d = mix(d, charge());
        d = mix(d, served());
        d = mix(d, inVain());
        d = mix(d, gaveUp());
        d = mix(d, unheard());
        d = mix(d, longestWaiting());
        d = mix(d, crossed());
        d = mix(d, crossingsNeeded());
        d = mix(d, fallen());
        d = mix(d, nextDrop());
        d = mix(d, servedIn(DIGEST_MINUTES));
        for (int room = 0; room < house.roomCount; room++) {
            d = mix(d, dropOf(room));
            d = mix(d, roomOf(room));
            d = mix(d, isCut(room) ? 1 : 0);
            d = mix(d, waitedFor(room));
            d = mix(d, placeInLine(room));
            d = mix(d, ringsLeft(room));
            d = mix(d, nearestIdle(room));
            d = mix(d, minutesUntilServed(room));
            d = mix(d, bestToCross(room));
        }
        for (int servant = 0; servant < house.staff.count; servant++) {
            d = mix(d, floorOf(servant));
            d = mix(d, goesTo(servant));
            d = mix(d, serves(servant));
            d = mix(d, minutesLeft(servant));
        }
        return d;
    }

    // ---- helpers

    /** Drops have the numbers of the rooms, so this looks at both. */
    private void requireRoom(int number) {
        if (number < 0 || number >= house.roomCount) {
            throw new IndexOutOfBoundsException("no such room or drop");
        }
    }

    private void requireServant(int servant) {
        if (servant < 0 || servant >= house.staff.count) {
            throw new IndexOutOfBoundsException("no such servant");
        }
    }

    private static void requireMinutes(int minutes) {
        if (!isWithin(minutes, 1, MOST_MINUTES)) {
            throw new IllegalArgumentException("no such number of minutes");
        }
    }

    private static boolean isWithin(int number, int least, int most) {
        return number >= least && number <= most;
    }

    /** Lets the trial go on, and answers how often a servant begins to serve in it. */
    private int serveInTrial(int minutes) {
        int begun = 0;
        // Only who waits is served, and nobody begins to wait by itself: with none waiting the rest is known.
        for (int gone = 0; gone < minutes && trial.isAnyoneWaiting(); gone++) {
            begun += trial.letMinuteGoBy();
        }
        return begun;
    }

    /** A division that never fails: no divisor here is below 1 unless the house is broken. */
    private static int quotient(int number, int divisor) {
        return divisor < 1 ? 0 : number / divisor;
    }

    private static long mix(long d, int x) {
        return d * 31 + x;
    }

    /** Rooms, wires, battery, board and servants, and how a minute goes with them. */
    private static final class House {
        private int minute;
        private int roomCount;
        private int charge;
        private int served;
        private int inVain;
        private int gaveUp;
        private int unheard;
        private final Row floor;
        private final Row patience;
        private final Row need;
        /** For each room the drop to which its wire leads. */
        private final Row wire;
        /** For each room 1 if its wire is cut, else 0. */
        private final Row cut;
        /** For each room the minutes that it has waited, or NONE. */
        private final Row waited;
        private final Line line;
        private final Staff staff;

        House() {
            charge = FIRST_CHARGE;
            floor = new Row();
            patience = new Row();
            need = new Row();
            wire = new Row();
            cut = new Row();
            waited = new Row();
            line = new Line();
            staff = new Staff();
        }

        void copyFrom(House other) {
            minute = other.minute;
            roomCount = other.roomCount;
            charge = other.charge;
            served = other.served;
            inVain = other.inVain;
            gaveUp = other.gaveUp;
            unheard = other.unheard;
            floor.copyFrom(other.floor);
            patience.copyFrom(other.patience);
            need.copyFrom(other.need);
            wire.copyFrom(other.wire);
            cut.copyFrom(other.cut);
            waited.copyFrom(other.waited);
            line.copyFrom(other.line);
            staff.copyFrom(other.staff);
        }

        int openRoom(int itsFloor, int itsPatience, int itsNeed) {
            int room = roomCount;
            roomCount++;
            floor.set(room, itsFloor);
            patience.set(room, itsPatience);
            need.set(room, itsNeed);
            wire.set(room, room);
            cut.set(room, 0);
            waited.set(room, NONE);
            return room;
        }

        boolean isWaiting(int room) {
            return waited.get(room) != NONE;
        }

        boolean isAnyoneWaiting() {
            for (int room = 0; room < roomCount; room++) {
                if (waited.get(room) != NONE) {
                    return true;
                }
            }
            return false;
        }

        boolean isWireCut(int room) {
            return cut.get(room) == 1;
        }

        int countCutWires() {
            int count = 0;
            for (int room = 0; room < roomCount; room++) {
                count += cut.get(room);
            }
            return count;
        }

        void swapWires(int one, int other) {
            int drop = wire.get(one);
            wire.set(one, wire.get(other));
            wire.set(other, drop);
        }

        /** From wire to drop to wire one comes back to the start: whether no smaller number is on that circle. */
        boolean isFirstOfItsCircle(int room) {
            int next = wire.get(room);
            for (int step = 0; step < roomCount && next != room; step++) {
                if (next < room) {
                    return false;
                }
                next = wire.get(next);
            }
            return true;
        }

        static int costFrom(int itsFloor) {
            return itsFloor + 1;
        }

        /** A ring, by hand or by one who waits: answers whether it is heard. */
        boolean pullBell(int room) {
            int cost = costFrom(floor.get(room));
            if (cut.get(room) == 1 || charge < cost) {
                unheard++;
                return false;
            }
            charge -= cost;
            int drop = wire.get(room);
            if (line.placeOf(drop) == NONE) {
                line.append(drop);
            }
            return true;
        }

        /** Answers how often a servant begins to serve in this minute. */
        int letMinuteGoBy() {
            int before = served;
            letRoomsWait();
            letServantsMove();
            sendIdleServants();
            minute++;
            return served - before;
        }

        private void letRoomsWait() {
            for (int room = 0; room < roomCount; room++) {
                if (waited.get(room) == NONE) {
                    continue;
                }
                int minutes = waited.get(room) + 1;
                if (minutes >= GIVES_UP_AFTER) {
                    waited.set(room, NONE);
                    gaveUp++;
                    continue;
                }
                waited.set(room, minutes);
                if (isMultiple(minutes, patience.get(room))) {
                    pullBell(room);
                }
            }
        }

        private static boolean isMultiple(int number, int part) {
            return part > 0 && number % part == 0;
        }

        private void letServantsMove() {
            for (int servant = 0; servant < staff.count; servant++) {
                if (staff.isIdle(servant)) {
                    continue;
                }
                int left = staff.left.get(servant) - 1;
                staff.left.set(servant, left);
                if (left > 0) {
                    continue;
                }
                int room = staff.goal.get(servant);
                staff.rest(servant);
                if (room != NONE) {
                    arrive(servant, room);
                }
            }
        }

        private void arrive(int servant, int room) {
            staff.floor.set(servant, floor.get(room));
            if (waited.get(room) == NONE) {
                inVain++;
                return;
            }
            waited.set(room, NONE);
            served++;
            staff.guest.set(servant, room);
            staff.left.set(servant, need.get(room));
        }

        private void sendIdleServants() {
            // Each turn makes one servant less idle, so there are no more turns than servants.
            for (int turn = 0; turn < staff.count && line.count > 0; turn++) {
                int room = line.first();
                int servant = staff.nearestTo(floor.get(room));
                if (servant == NONE) {
                    return;
                }
                line.remove(room);
                int way = staff.wayToFloor(servant, floor.get(room));
                staff.goal.set(servant, room);
                staff.left.set(servant, way);
            }
        }
    }

    /** The servants: where they are, and what they do. */
    private static final class Staff {
        private int count;
        private final Row pace;
        private final Row floor;
        /** For each servant the room to which he goes, or NONE. */
        private final Row goal;
        /** For each servant the room that he serves, or NONE. */
        private final Row guest;
        /** For each servant the minutes that he goes or serves yet. */
        private final Row left;

        Staff() {
            pace = new Row();
            floor = new Row();
            goal = new Row();
            guest = new Row();
            left = new Row();
        }

        void copyFrom(Staff other) {
            count = other.count;
            pace.copyFrom(other.pace);
            floor.copyFrom(other.floor);
            goal.copyFrom(other.goal);
            guest.copyFrom(other.guest);
            left.copyFrom(other.left);
        }

        int hire(int itsPace) {
            int servant = count;
            count++;
            pace.set(servant, itsPace);
            floor.set(servant, 0);
            rest(servant);
            return servant;
        }

        void rest(int servant) {
            goal.set(servant, NONE);
            guest.set(servant, NONE);
            left.set(servant, 0);
        }

        boolean isIdle(int servant) {
            return goal.get(servant) == NONE && guest.get(servant) == NONE;
        }

        boolean isServing(int room) {
            for (int servant = 0; servant < count; servant++) {
                if (guest.get(servant) == room) {
                    return true;
                }
            }
            return false;
        }

        int wayToFloor(int servant, int itsFloor) {
            return minutesOfWay(floor.get(servant), itsFloor, pace.get(servant));
        }

        /** The idle servant with the shortest way to a floor, of several the first; NONE if none is idle. */
        int nearestTo(int itsFloor) {
            int nearest = NONE;
            int shortest = 0;
            for (int servant = 0; servant < count; servant++) {
                if (goal.get(servant) != NONE || guest.get(servant) != NONE) {
                    continue;
                }
                int way = minutesOfWay(floor.get(servant), itsFloor, pace.get(servant));
                if (nearest == NONE || way < shortest) {
                    nearest = servant;
                    shortest = way;
                }
            }
            return nearest;
        }

        private static int minutesOfWay(int from, int to, int itsPace) {
            int floors = from < to ? to - from : from - to;
            int minutes = itsPace < 1 ? 1 : (floors + itsPace - 1) / itsPace;
            return minutes < 1 ? 1 : minutes;
        }
    }

    /** The drops that have fallen, that which fell first ahead. */
    private static final class Line {
        private int count;
        private final int[] drops;

        Line() {
            drops = new int[MOST_ROOMS];
        }

        void copyFrom(Line other) {
            count = other.count;
            for (int place = 0; place < drops.length && place < other.drops.length; place++) {
                drops[place] = other.drops[place];
            }
        }

        int first() {
            return count > 0 && drops.length > 0 ? drops[0] : NONE;
        }

        int placeOf(int drop) {
            for (int place = 0; place < count && place < drops.length; place++) {
                if (drops[place] == drop) {
                    return place;
                }
            }
            return NONE;
        }

        void append(int drop) {
            if (count >= 0 && count < drops.length) {
                drops[count] = drop;
                count++;
            }
        }

        void remove(int drop) {
            int kept = 0;
            for (int place = 0; place < count && place < drops.length; place++) {
                if (drops[place] != drop && kept < drops.length) {
                    drops[kept] = drops[place];
                    kept++;
                }
            }
            count = kept;
        }
    }

    /** A number for each room or servant; outside of it nothing is written, and 0 is read. */
    private static final class Row {
        private final int[] cells;

        Row() {
            cells = new int[MOST_ROOMS];
        }

        int get(int place) {
            return place >= 0 && place < cells.length ? cells[place] : 0;
        }

        void set(int place, int number) {
            if (place >= 0 && place < cells.length) {
                cells[place] = number;
            }
        }

        void copyFrom(Row other) {
            for (int place = 0; place < cells.length && place < other.cells.length; place++) {
                cells[place] = other.cells[place];
            }
        }
    }
}
