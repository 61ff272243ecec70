import java.math.BigInteger;
import java.util.Arrays;

/**
 * Promises 37 to 41 at their edges. The words above each test are the document's; what is refused, and that nothing is
 * changed, is looked at in RefusedTest.
 */
public final class AheadEdgesTest {
    private static final int[] SIX_OF_PACE_1 = {1, 1, 1, 1, 1, 1};

    public static void main(String[] args) {
        notServedAtAll();
        servedNow();
        servedInTheNextMinute();
        servedFromTheFloorOfTheServant();
        servedInTheLastMinute();
        notServedWhenItGivesUp();
        servedOneBehindTheOther();
        servedAsTheMinutesGo();
        servedInNone();
        servedInFromLeastToMost();
        servedInAsTheMinutesGo();
        nothingToCrossWith();
        nothingToGain();
        gainInTheLastMinute();
        greatestNotSmallestNumber();
        smallestNumberOfSeveral();
        firstAndLastRoom();
        meanOfNone();
        meanOfOneAndAll();
        digestOfNewHouse();
        digestWrapsAround();
        digestCountsWhetherSoAsOneOrNone();
        digestLooksTwentyMinutesAhead();
        Check.finish("AheadEdgesTest");
    }

    /** A house with as many rooms as there can be, of which all wait. */
    private static HouseBells twelveWaiting(int... paces) {
        HouseBells x = Check.house(Check.twelveFloors(), paces);
        Check.ringAll(x);
        return x;
    }

    /** One room that rings next when it has waited for as many minutes as its patience. */
    private static HouseBells unheardRoom(int floor, int patience) {
        HouseBells x = new HouseBells();
        x.addRoom(floor, patience, 1);
        x.addServant(1);
        x.ring(0);
        x.putUp(0);
        return x;
    }

    /** "-1 if not by then": without a servant, a wait, or a ring that is heard. */
    private static void notServedAtAll() {
        HouseBells x = Check.house(Check.floors(0));
        Check.due("37: who does not wait", x.minutesUntilServed(0), -1);
        x.ring(0);
        Check.due("37: without servants", x.minutesUntilServed(0), -1);
        HouseBells y = Check.house(Check.floors(0), 1);
        Check.due("37: who does not wait, with a servant", y.minutesUntilServed(0), -1);
        y.ring(0);
        y.pass(4);
        Check.due("37: who was served", y.minutesUntilServed(0), -1);
        y.recharge(0);
        y.ring(0);
        Check.due("37: without charge", y.minutesUntilServed(0), -1);
        y.recharge(500);
        y.cut(0);
        Check.due("37: by a cut wire", y.minutesUntilServed(0), -1);
    }

    /** "0 if one serves it now": from the first minute of it to the last, by whomever, also if it waits again. */
    private static void servedNow() {
        HouseBells x = Check.house(Check.floors(0), 1);
        x.ring(0);
        x.pass(2);
        Check.due("37: in the first minute", x.minutesUntilServed(0), 0);
        x.pass(1);
        Check.due("37: in the last minute", x.minutesUntilServed(0), 0);
        x.ring(0);
        Check.due("37: though it waits again", x.minutesUntilServed(0), 0);
        x.pass(1);
        Check.due("37: when that ended", x.minutesUntilServed(0), 1);
        HouseBells y = Check.house(Check.twelveFloors(), SIX_OF_PACE_1);
        for (int room = 6; room < 12; room++) {
            y.ring(room);
        }
        y.pass(2);
        Check.due("37: the last room, by the last servant", y.minutesUntilServed(11), 0);
        Check.due("37: not one beside them", y.minutesUntilServed(5), -1);
    }

    /** "behind how many minutes": 1 for one whose servant comes in the next minute, 2 for one who rings now. */
    private static void servedInTheNextMinute() {
        HouseBells x = Check.house(Check.floors(0), 1);
        x.ring(0);
        Check.due("37: rings now", x.minutesUntilServed(0), 2);
        x.pass(1);
        Check.due("37: comes in the next minute", x.minutesUntilServed(0), 1);
        x.pass(1);
        Check.due("37: is there", x.minutesUntilServed(0), 0);
        HouseBells y = Check.house(Check.floors(0, 0), 1);
        y.cut(1);
        y.ring(1);
        y.cross(0, 1);
        y.ring(0);
        y.pass(1);
        Check.due("37: comes to one who was not heard", y.minutesUntilServed(1), 1);
        Check.due("37: not to one who was", y.minutesUntilServed(0), -1);
    }

    /** What would be begins with all that is, the floors of the servants too. */
    private static void servedFromTheFloorOfTheServant() {
        HouseBells x = Check.house(Check.floors(5, 0), 1);
        x.ring(0);
        x.pass(8);
        x.ring(1);
        Check.due("37: down from floor 5", x.minutesUntilServed(1), 6);
        Check.due("38: not in a minute less", x.servedIn(5), 0);
        Check.due("38: in just these", x.servedIn(6), 1);
    }

    /** As who waits gives up at 30, 29 is the most there can be. */
    private static void servedInTheLastMinute() {
        Check.due("37: rings at 7, way of 1", unheardRoom(1, 7).minutesUntilServed(0), 8);
        HouseBells x = unheardRoom(1, 7);
        x.recharge(0);
        x.pass(27);
        x.recharge(200);
        Check.due("37: at 27, served at 29", x.minutesUntilServed(0), 2);
        Check.due("37: as it is", x.pass(2), 1);
        HouseBells busy = new HouseBells();
        for (int room = 0; room < 4; room++) {
            busy.addRoom(0, 9, 8);
        }
        busy.addServant(1);
        Check.ringAll(busy);
        // Each takes 9 minutes: 2, 11, 20, 29.
        Check.due("37: the fourth at 29", busy.minutesUntilServed(3), 29);
        Check.due("37: the third at 20", busy.minutesUntilServed(2), 20);
        Check.due("37: it is so", busy.pass(28), 3);
        Check.due("37: in the last minute", busy.minutesUntilServed(3), 1);
        Check.due("37: it is so in the last minute", busy.pass(1), 1);
    }

    private static void notServedWhenItGivesUp() {
        HouseBells x = new HouseBells();
        x.addRoom(0, 9, 9);
        x.addRoom(0, 9, 9);
        x.addRoom(0, 9, 7);
        x.addRoom(0, 9, 1);
        x.addServant(1);
        Check.ringAll(x);
        // 2, 12, 22, and 30, when it gives up.
        Check.due("37: the third", x.minutesUntilServed(2), 22);
        Check.due("37: the fourth would be at 30", x.minutesUntilServed(3), -1);
        Check.due("37: it is so", x.pass(60), 3);
        Check.due("37: it gave up", x.gaveUp(), 1);
    }

    /** One servant for twelve rooms. */
    private static void servedOneBehindTheOther() {
        HouseBells x = twelveWaiting(1);
        for (int room = 0; room < 10; room++) {
            Check.due("37: room " + room + " of twelve", x.minutesUntilServed(room), 2 + 3 * room);
        }
        Check.due("37: the last but one gives up", x.minutesUntilServed(10), -1);
        Check.due("37: the last gives up", x.minutesUntilServed(11), -1);
    }

    /** "if nothing is done by hand": what it says comes to be. */
    private static void servedAsTheMinutesGo() {
        HouseBells asked = Houses.full();
        int[] due = new int[12];
        Arrays.fill(due, -1);
        HouseBells twin = Houses.full();
        for (int minute = 0; minute <= 60; minute++) {
            for (int servant = 0; servant < 6; servant++) {
                int room = twin.serves(servant);
                if (room >= 0 && due[room] < 0) {
                    due[room] = minute;
                }
            }
            twin.pass(1);
        }
        for (int room = 0; room < 12; room++) {
            Check.due("37: room " + room + " of the full house", asked.minutesUntilServed(room), due[room]);
        }
    }

    private static void servedInNone() {
        HouseBells x = new HouseBells();
        Check.due("38: without rooms and servants", x.servedIn(60), 0);
        x.addServant(1);
        Check.due("38: without rooms", x.servedIn(60), 0);
        x.addRoom(0, 1, 1);
        Check.due("38: without a ring", x.servedIn(60), 0);
        HouseBells y = Check.house(Check.floors(0));
        y.ring(0);
        Check.due("38: without servants", y.servedIn(60), 0);
        HouseBells z = Check.house(Check.floors(0), 1);
        z.ring(0);
        z.pass(2);
        Check.due("38: who is served already is not counted", z.servedIn(60), 0);
    }

    /** "if minutes is not 1 to 60", and each number of services from none to all. */
    private static void servedInFromLeastToMost() {
        HouseBells x = twelveWaiting(1);
        Check.illegal("38: servedIn(0)", x, () -> x.servedIn(0));
        Check.illegal("38: servedIn(61)", x, () -> x.servedIn(61));
        Check.due("38: servedIn(1)", x.servedIn(1), 0);
        Check.due("38: servedIn(2)", x.servedIn(2), 1);
        Check.due("38: servedIn(28)", x.servedIn(28), 9);
        Check.due("38: servedIn(29)", x.servedIn(29), 10);
        Check.due("38: servedIn(30)", x.servedIn(30), 10);
        Check.due("38: servedIn(60)", x.servedIn(60), 10);
        HouseBells y = twelveWaiting(SIX_OF_PACE_1);
        Check.due("38: six in one minute", y.servedIn(2), 6);
        Check.due("38: a minute before all", y.servedIn(4), 6);
        Check.due("38: all", y.servedIn(5), 12);
        Check.due("38: no more than all", y.servedIn(60), 12);
        y.pass(1);
        Check.due("38: in the next minute", y.servedIn(1), 6);
    }

    /** "if nothing is done by hand": as pass answers then. */
    private static void servedInAsTheMinutesGo() {
        for (int minutes = 1; minutes <= 60; minutes++) {
            HouseBells x = Houses.full();
            int due = x.servedIn(minutes);
            Check.due("38: of the full house in " + minutes, x.pass(minutes), due);
        }
    }

    /** "the other room": there may be none, or it may not be worth it. */
    private static void nothingToCrossWith() {
        HouseBells x = Check.house(Check.floors(0), 1);
        Check.due("39: the only room", x.bestToCross(0), -1);
        x.ring(0);
        Check.due("39: the only room, which waits", x.bestToCross(0), -1);
        HouseBells y = Check.house(Check.twelveFloors(), 1);
        Check.due("39: the first of twelve when none waits", y.bestToCross(0), -1);
        Check.due("39: the last of twelve when none waits", y.bestToCross(11), -1);
        HouseBells z = twelveWaiting();
        Check.due("39: without servants", z.bestToCross(0), -1);
    }

    /** "-1 if it is greater with none than now": when it is as great, and when it is less. */
    private static void nothingToGain() {
        HouseBells x = Check.house(Check.floors(0, 0), 1);
        x.ring(0);
        Check.due("39: as great, as the drop has fallen", x.bestToCross(0), -1);
        x.putUp(0);
        Check.due("39: less, as another drop would fall", x.bestToCross(0), -1);
        Check.due("39: less, for the other one", x.bestToCross(1), -1);
        x.cross(0, 1);
        Check.due("39: greater, crossed back", x.bestToCross(0), 1);
        x.cut(0);
        Check.due("39: not by a cut wire", x.bestToCross(0), -1);
    }

    /** "servedIn() of 40 minutes": as who waits gives up at 30, a service at 29 is the last that can count. */
    private static void gainInTheLastMinute() {
        for (int way = 1; way <= 2; way++) {
            HouseBells x = new HouseBells();
            x.addRoom(way, 4, 1);
            x.addRoom(0, 9, 1);
            x.addServant(1);
            x.cut(0);
            x.cross(0, 1);
            x.ring(0);
            // The ring at 28 is the only one that is heard.
            x.pass(27);
            x.mend(0);
            x.recharge(way + 1);
            Check.due("39: served at " + (28 + way), x.bestToCross(0), way == 1 ? 1 : -1);
        }
        HouseBells late = new HouseBells();
        for (int room = 0; room < 3; room++) {
            late.addRoom(0, 9, 8);
        }
        late.addRoom(0, 9, 1);
        late.addRoom(0, 9, 1);
        late.addServant(1);
        for (int room = 0; room < 3; room++) {
            late.ring(room);
        }
        late.cross(3, 4);
        late.ring(3);
        late.putUp(4);
        // Room 3 rings at 9; who serves the others at 2, 11 and 20 gets to it at 29.
        Check.due("39: served at 29, from now on", late.bestToCross(3), 4);
        Check.due("39: with that one three more", late.servedIn(40), 3);
    }

    /**
     * "so that servedIn() of 40 minutes is the greatest": room 0 takes all charge until it is served; with room 1 one
     * is served, with room 2 it is served itself, and room 3 is heard and served too.
     */
    private static void greatestNotSmallestNumber() {
        HouseBells x = new HouseBells();
        x.addRoom(0, 1, 1);
        x.addRoom(0, 9, 1);
        x.addRoom(0, 9, 1);
        x.addRoom(0, 9, 1);
        x.addServant(1);
        x.cross(0, 2);
        x.cut(1);
        x.recharge(0);
        x.ring(0);
        x.ring(1);
        x.ring(3);
        x.recharge(8);
        Check.due("39: none now", x.servedIn(40), 0);
        Check.due("39: the greatest", x.bestToCross(0), 2);
        x.cross(0, 1);
        Check.due("39: one with room 1", x.servedIn(40), 1);
        x.cross(0, 1);
        x.cross(0, 3);
        Check.due("39: one with room 3", x.servedIn(40), 1);
        x.cross(0, 3);
        x.cross(0, 2);
        Check.due("39: two with room 2", x.servedIn(40), 2);
    }

    /** "of several the smallest number". */
    private static void smallestNumberOfSeveral() {
        HouseBells x = Check.house(Check.twelveFloors(), 1);
        for (int room = 0; room < 12; room++) {
            if (room != 5) {
                x.cut(room);
            }
        }
        x.cross(5, 0);
        // Room 5 leads to drop 0, where nobody waits; with 3 it leads to 3, with 0 to its own.
        x.ring(5);
        x.ring(3);
        x.ring(11);
        x.putUp(0);
        Check.due("39: of rooms 0, 3 and 11 the smallest", x.bestToCross(5), 0);
        x.cross(0, 10);
        Check.due("39: of rooms 3, 10 and 11 the smallest", x.bestToCross(5), 3);
        Check.due("39: room 10 leads to its drop", x.dropOf(10), 5);
    }

    /** The first and the last room of twelve, for each other. */
    private static void firstAndLastRoom() {
        HouseBells x = Check.house(Check.twelveFloors(), 1);
        x.cross(0, 11);
        x.ring(0);
        x.putUp(11);
        Check.due("39: the last for the first", x.bestToCross(0), 11);
        Check.due("39: the first for the last", x.bestToCross(11), 0);
        Check.due("39: none for another", x.bestToCross(6), -1);
    }

    /** "0 if none waits". */
    private static void meanOfNone() {
        HouseBells x = new HouseBells();
        Check.due("40: without rooms", x.meanWait(), 0.0);
        x.addRoom(0, 9, 1);
        Check.due("40: none waits", x.meanWait(), 0.0);
        x.ring(0);
        Check.due("40: one waits, for 0", x.meanWait(), 0.0);
        x.pass(30);
        Check.due("40: one gave up", x.meanWait(), 0.0);
    }

    /** "the mean of waitedFor() of the rooms that wait": the -1 of the others does not count. */
    private static void meanOfOneAndAll() {
        HouseBells x = Check.house(Check.twelveFloors());
        x.ring(11);
        x.pass(1);
        Check.due("40: one of twelve", x.meanWait(), 1.0);
        Check.ringAll(x);
        Check.due("40: all, eleven of them for 0", x.meanWait(), 1.0 / 12);
        x.pass(28);
        Check.due("40: all, at 28 and 29", x.meanWait(), (11 * 28 + 29) / 12.0);
        x.pass(1);
        Check.due("40: when one gave up", x.meanWait(), 29.0);
        x.pass(1);
        Check.due("40: when all gave up", x.meanWait(), 0.0);
    }

    /** A digest without rooms and servants: just its first numbers. */
    private static void digestOfNewHouse() {
        HouseBells x = new HouseBells();
        long[] numbers = {0, 0, 0, 200, 0, 0, 0, 0, -1, 0, 0, 0, -1, 0};
        Check.due("41: of a new house", x.digest(), wrapped(unwrapped(numbers)));
        x.addServant(1);
        long[] withServant = {0, 0, 1, 200, 0, 0, 0, 0, -1, 0, 0, 0, -1, 0, 0, -1, -1, 0};
        Check.due("41: with a servant", x.digest(), wrapped(unwrapped(withServant)));
        HouseBells y = new HouseBells();
        y.addRoom(0, 9, 1);
        long[] withRoom = {0, 1, 0, 200, 0, 0, 0, 0, -1, 0, 0, 0, -1, 0, 0, 0, 0, -1, -1, 200, -1, -1, -1};
        Check.due("41: with a room", y.digest(), wrapped(unwrapped(withRoom)));
    }

    /** "which wraps around as a 64-bit integer": of as many numbers as there can be. */
    private static void digestWrapsAround() {
        HouseBells x = Houses.full();
        BigInteger d = unwrapped(numbersOf(x));
        Check.due("41: as many numbers as there can be", numbersOf(Houses.full()).length, 14 + 12 * 9 + 6 * 4);
        Check.due("41: it goes far beyond 64 bits", d.bitLength() > 700, true);
        Check.due("41: of a full house", x.digest(), wrapped(d));
        HouseBells one = Houses.one();
        Check.due("41: of a house with one of each", one.digest(), wrapped(unwrapped(numbersOf(one))));
    }

    /** "whether something is so counts 1 or 0". */
    private static void digestCountsWhetherSoAsOneOrNone() {
        HouseBells x = Check.house(Check.floors(0));
        x.recharge(0);
        long whole = x.digest();
        x.cut(0);
        // isCut() is the third of the last nine numbers of a house without servants; with no charge no other changes.
        Check.due("41: a cut wire", x.digest() - whole, 31L * 31 * 31 * 31 * 31 * 31);
        x.mend(0);
        Check.due("41: a whole wire", x.digest(), whole);
    }

    /** "servedIn(20)": a service in the minute 20 counts, one in the minute 21 does not. */
    private static void digestLooksTwentyMinutesAhead() {
        for (int need = 8; need <= 9; need++) {
            HouseBells x = new HouseBells();
            x.addRoom(0, 9, 8);
            x.addRoom(0, 9, need);
            x.addRoom(0, 9, 1);
            x.addServant(1);
            Check.ringAll(x);
            long[] numbers = numbersOf(x);
            // servedIn() is the last of the first fourteen.
            Check.due("41: servedIn(20) with a third at " + (12 + need), numbers[13], need == 8 ? 3L : 2L);
            Check.due("41: digest with it", x.digest(), wrapped(unwrapped(numbers)));
        }
    }

    private static BigInteger unwrapped(long[] numbers) {
        BigInteger d = BigInteger.valueOf(2377);
        for (long number : numbers) {
            d = d.multiply(BigInteger.valueOf(31)).add(BigInteger.valueOf(number));
        }
        return d;
    }

    private static long wrapped(BigInteger d) {
        return d.longValue();
    }

    /** The numbers of the digest, by the house's own answers. */
    private static long[] numbersOf(HouseBells x) {
        int rooms = x.rooms();
        int servants = x.servants();
        long[] house = {x.minute(), rooms, servants, x.charge(), x.served(), x.inVain(), x.gaveUp(), x.unheard(),
            x.longestWaiting(), x.crossed(), x.crossingsNeeded(), x.fallen(), x.nextDrop(), x.servedIn(20)};
        long[] all = Arrays.copyOf(house, house.length + 9 * rooms + 4 * servants);
        int at = house.length;
        for (int r = 0; r < rooms; r++) {
            long[] room = {x.dropOf(r), x.roomOf(r), x.isCut(r) ? 1 : 0, x.waitedFor(r), x.placeInLine(r),
                x.ringsLeft(r), x.nearestIdle(r), x.minutesUntilServed(r), x.bestToCross(r)};
            System.arraycopy(room, 0, all, at, room.length);
            at += room.length;
        }
        for (int s = 0; s < servants; s++) {
            long[] servant = {x.floorOf(s), x.goesTo(s), x.serves(s), x.minutesLeft(s)};
            System.arraycopy(servant, 0, all, at, servant.length);
            at += servant.length;
        }
        return all;
    }
}
