import java.util.ArrayDeque;
import java.util.ArrayList;
import java.util.Deque;
import java.util.List;

/**
 * The document once more, in another form: objects and lists, a copy for each question, no minute left out.
 * ModelTest holds the class against it.
 */
final class PlainHouse {
    private static final class Room {
        int number;
        int floor;
        int patience;
        int need;
        int drop;
        boolean cut;
        Integer waited; // null if it does not wait
    }

    private static final class Servant {
        int pace;
        int floor;
        Room goesTo;
        Room serves;
        int left;
    }

    private final List<Room> rooms = new ArrayList<>();
    private final List<Servant> servants = new ArrayList<>();
    private final List<Integer> fallen = new ArrayList<>();
    /** For each minute the rooms that a servant began to serve in it. */
    private final List<List<Integer>> begun = new ArrayList<>();
    private int charge = 200;
    private int inVain;
    private int gaveUp;
    private int unheard;

    private PlainHouse copy() {
        PlainHouse to = new PlainHouse();
        for (Room room : rooms) {
            Room r = new Room();
            r.number = room.number;
            r.floor = room.floor;
            r.patience = room.patience;
            r.need = room.need;
            r.drop = room.drop;
            r.cut = room.cut;
            r.waited = room.waited;
            to.rooms.add(r);
        }
        for (Servant servant : servants) {
            Servant s = new Servant();
            s.pace = servant.pace;
            s.floor = servant.floor;
            s.goesTo = servant.goesTo == null ? null : to.rooms.get(servant.goesTo.number);
            s.serves = servant.serves == null ? null : to.rooms.get(servant.serves.number);
            s.left = servant.left;
            to.servants.add(s);
        }
        to.fallen.addAll(fallen);
        to.begun.addAll(begun);
        to.charge = charge;
        to.inVain = inVain;
        to.gaveUp = gaveUp;
        to.unheard = unheard;
        return to;
    }

    private Room room(int number) {
        if (number < 0 || number >= rooms.size()) {
            throw new IndexOutOfBoundsException();
        }
        return rooms.get(number);
    }

    private Servant servant(int number) {
        if (number < 0 || number >= servants.size()) {
            throw new IndexOutOfBoundsException();
        }
        return servants.get(number);
    }

    private static void needs(boolean right) {
        if (!right) {
            throw new IllegalArgumentException();
        }
    }

    private static void stands(boolean right) {
        if (!right) {
            throw new IllegalStateException();
        }
    }

    int addRoom(int floor, int patience, int need) {
        needs(floor >= 0 && floor <= 5 && patience >= 1 && patience <= 9 && need >= 1 && need <= 9);
        stands(rooms.size() < 12);
        Room room = new Room();
        room.number = rooms.size();
        room.floor = floor;
        room.patience = patience;
        room.need = need;
        room.drop = room.number;
        rooms.add(room);
        return room.number;
    }

    int addServant(int pace) {
        needs(pace >= 1 && pace <= 4);
        stands(servants.size() < 6);
        Servant servant = new Servant();
        servant.pace = pace;
        servants.add(servant);
        return servants.size() - 1;
    }

    boolean ring(int number) {
        Room room = room(number);
        boolean heard = ring(room);
        if (room.waited == null) {
            room.waited = 0;
        }
        return heard;
    }

    private boolean ring(Room room) {
        int takes = room.floor + 1;
        if (!room.cut && charge >= takes) {
            charge -= takes;
            if (!fallen.contains(room.drop)) {
                fallen.add(room.drop);
            }
            return true;
        }
        unheard++;
        return false;
    }

    int cross(int one, int other) {
        Room a = room(one);
        Room b = room(other);
        needs(a != b);
        int drop = a.drop;
        a.drop = b.drop;
        b.drop = drop;
        return a.drop;
    }

    int cut(int number) {
        Room room = room(number);
        stands(!room.cut);
        room.cut = true;
        return (int) rooms.stream().filter(r -> r.cut).count();
    }

    int mend(int number) {
        Room room = room(number);
        stands(room.cut);
        room.cut = false;
        return (int) rooms.stream().filter(r -> r.cut).count();
    }

    int recharge(int to) {
        needs(to >= 0 && to <= 500);
        int before = charge;
        charge = to;
        return before;
    }

    int putUp(int drop) {
        room(drop);
        stands(fallen.contains(drop));
        fallen.remove((Integer) drop);
        return fallen.size();
    }

    int pass(int minutes) {
        needs(minutes >= 1 && minutes <= 60);
        int before = served();
        for (int m = 0; m < minutes; m++) {
            oneMinute();
        }
        return served() - before;
    }

    private void oneMinute() {
        List<Integer> now = new ArrayList<>();
        for (Room room : rooms) {
            if (room.waited != null) {
                room.waited++;
                if (room.waited == 30) {
                    room.waited = null;
                    gaveUp++;
                } else if (room.waited % room.patience == 0) {
                    ring(room);
                }
            }
        }
        for (Servant servant : servants) {
            if (servant.goesTo != null) {
                servant.left--;
                if (servant.left == 0) {
                    Room room = servant.goesTo;
                    servant.floor = room.floor;
                    servant.goesTo = null;
                    if (room.waited != null) {
                        room.waited = null;
                        servant.serves = room;
                        servant.left = room.need;
                        now.add(room.number);
                    } else {
                        inVain++;
                    }
                }
            } else if (servant.serves != null) {
                servant.left--;
                if (servant.left == 0) {
                    servant.serves = null;
                }
            }
        }
        while (!fallen.isEmpty() && nearestIdle(fallen.get(0)) >= 0) {
            Room room = rooms.get(fallen.get(0));
            Servant servant = servants.get(nearestIdle(room.number));
            fallen.remove(0);
            servant.goesTo = room;
            servant.left = way(servant, room);
        }
        begun.add(now);
    }

    private static int way(Servant servant, Room room) {
        return Math.max(1, (int) Math.ceil(Math.abs(servant.floor - room.floor) / (double) servant.pace));
    }

    int minute() {
        return begun.size();
    }

    int rooms() {
        return rooms.size();
    }

    int servants() {
        return servants.size();
    }

    int charge() {
        return charge;
    }

    int served() {
        return begun.stream().mapToInt(List::size).sum();
    }

    int inVain() {
        return inVain;
    }

    int gaveUp() {
        return gaveUp;
    }

    int unheard() {
        return unheard;
    }

    int dropOf(int room) {
        return room(room).drop;
    }

    int roomOf(int drop) {
        room(drop);
        return rooms.stream().filter(r -> r.drop == drop).findFirst().get().number;
    }

    boolean isCut(int room) {
        return room(room).cut;
    }

    int waitedFor(int room) {
        return room(room).waited == null ? -1 : room(room).waited;
    }

    int longestWaiting() {
        for (int minutes = 30; minutes >= 0; minutes--) {
            for (Room room : rooms) {
                if (room.waited != null && room.waited == minutes) {
                    return room.number;
                }
            }
        }
        return -1;
    }

    int crossed() {
        return (int) rooms.stream().filter(r -> r.drop != r.number).count();
    }

    /** Crosses wires, each time one of them to its end, until none is left. */
    int crossingsNeeded() {
        PlainHouse trial = copy();
        int count = 0;
        for (int number = 0; number < rooms.size(); number++) {
            int holder = trial.roomOf(number);
            if (holder != number) {
                trial.cross(number, holder);
                count++;
            }
        }
        return count;
    }

    int fallen() {
        return fallen.size();
    }

    boolean hasFallen(int drop) {
        room(drop);
        return fallen.contains(drop);
    }

    int placeInLine(int drop) {
        room(drop);
        return fallen.indexOf(drop);
    }

    int nextDrop() {
        return fallen.isEmpty() ? -1 : fallen.get(0);
    }

    int ringsLeft(int room) {
        room(room);
        PlainHouse trial = copy();
        int count = 0;
        while (trial.ring(room)) {
            count++;
        }
        return count;
    }

    int floorOf(int servant) {
        return servant(servant).floor;
    }

    int goesTo(int servant) {
        return servant(servant).goesTo == null ? -1 : servant(servant).goesTo.number;
    }

    int serves(int servant) {
        return servant(servant).serves == null ? -1 : servant(servant).serves.number;
    }

    int minutesLeft(int servant) {
        return servant(servant).left;
    }

    int wayTo(int servant, int room) {
        return way(servant(servant), room(room));
    }

    int nearestIdle(int room) {
        room(room);
        Deque<Integer> best = new ArrayDeque<>();
        for (int s = 0; s < servants.size(); s++) {
            if (minutesLeft(s) == 0 && (best.isEmpty() || wayTo(s, room) < wayTo(best.peek(), room))) {
                best.push(s);
            }
        }
        return best.isEmpty() ? -1 : best.peek();
    }

    int minutesUntilServed(int room) {
        Room asked = room(room);
        if (servants.stream().anyMatch(s -> s.serves == asked)) {
            return 0;
        }
        PlainHouse trial = copy();
        trial.pass(60);
        for (int m = 1; m <= 60; m++) {
            if (trial.begun.get(minute() + m - 1).contains(room)) {
                return m;
            }
        }
        return -1;
    }

    int servedIn(int minutes) {
        return copy().pass(minutes);
    }

    int bestToCross(int room) {
        room(room);
        int best = -1;
        int most = servedIn(40);
        for (int other = 0; other < rooms.size(); other++) {
            if (other != room) {
                PlainHouse trial = copy();
                trial.cross(room, other);
                int count = trial.pass(40);
                if (count > most) {
                    most = count;
                    best = other;
                }
            }
        }
        return best;
    }

    double meanWait() {
        return rooms.stream().filter(r -> r.waited != null).mapToInt(r -> r.waited).average().orElse(0);
    }

    long digest() {
        List<Integer> numbers = new ArrayList<>(List.of(minute(), rooms(), servants(), charge(), served(), inVain()));
        numbers.addAll(List.of(gaveUp(), unheard(), longestWaiting(), crossed(), crossingsNeeded(), fallen()));
        numbers.addAll(List.of(nextDrop(), servedIn(20)));
        for (int r = 0; r < rooms(); r++) {
            numbers.addAll(List.of(dropOf(r), roomOf(r), isCut(r) ? 1 : 0, waitedFor(r), placeInLine(r)));
            numbers.addAll(List.of(ringsLeft(r), nearestIdle(r), minutesUntilServed(r), bestToCross(r)));
        }
        for (int s = 0; s < servants(); s++) {
            numbers.addAll(List.of(floorOf(s), goesTo(s), serves(s), minutesLeft(s)));
        }
        long d = 2377;
        for (int number : numbers) {
            d = d * 31 + number;
        }
        return d;
    }
}
