/** Promises 37 to 41: what would be. */
public final class AheadTest {
    public static void main(String[] args) {
        minutesUntilServed();
        minutesUntilServedOfWhoIsNot();
        servedIn();
        bestToCross();
        bestToCrossOfSeveral();
        bestToCrossLooksFarAhead();
        meanWait();
        digestOfNewHouse();
        digest();
        digestLooksTwentyMinutesAhead();
        Check.finish("AheadTest");
    }

    /** The call answers as is due, and leaves the digest. */
    private static void due(String what, HouseBells x, Check.Call call, Object want) {
        long before = x.digest();
        Check.due(what, call.answer(), want);
        Check.due(what + " leaves the digest", x.digest(), before);
    }

    private static void minutesUntilServed() {
        HouseBells x = Check.house(Check.floors(3, 0), 2);
        due("37: of one who does not wait", x, () -> x.minutesUntilServed(0), -1);
        x.ring(0);
        x.ring(1);
        due("37: of the first", x, () -> x.minutesUntilServed(0), 3);
        due("37: of the second", x, () -> x.minutesUntilServed(1), 7);
        x.pass(2);
        due("37: a minute ahead", x, () -> x.minutesUntilServed(0), 1);
        x.pass(1);
        due("37: of one who is served", x, () -> x.minutesUntilServed(0), 0);
        x.ring(0);
        due("37: of one who is served and waits", x, () -> x.minutesUntilServed(0), 0);
        x.pass(1);
        due("37: of one who is served yet", x, () -> x.minutesUntilServed(0), 0);
        x.pass(1);
        due("37: of one who was served and waits", x, () -> x.minutesUntilServed(0), 6);
    }

    private static void minutesUntilServedOfWhoIsNot() {
        HouseBells x = new HouseBells();
        x.addRoom(5, 9, 1);
        x.ring(0);
        due("37: without servants", x, () -> x.minutesUntilServed(0), -1);
        x.pass(23);
        x.addServant(1);
        due("37: just before it gives up", x, () -> x.minutesUntilServed(0), 6);
        HouseBells y = new HouseBells();
        y.addRoom(5, 9, 1);
        y.ring(0);
        y.pass(24);
        y.addServant(1);
        due("37: when it gives up before", y, () -> y.minutesUntilServed(0), -1);
        HouseBells z = Check.house(Check.floors(0, 1), 1);
        z.cut(0);
        z.ring(0);
        due("37: behind a cut wire", z, () -> z.minutesUntilServed(0), -1);
        z.pass(1);
        z.mend(0);
        due("37: by its ring of 9 minutes", z, () -> z.minutesUntilServed(0), 9);
        z.cross(0, 1);
        due("37: by a crossed wire", z, () -> z.minutesUntilServed(0), -1);
        z.ring(1);
        due("37: by the ring of another", z, () -> z.minutesUntilServed(0), 2);
        due("37: of that other, whose drop nobody rings", z, () -> z.minutesUntilServed(1), -1);
    }

    private static void servedIn() {
        HouseBells x = Check.house(Check.floors(0, 0, 5), 1);
        due("38: of none", x, () -> x.servedIn(60), 0);
        x.ring(0);
        x.ring(1);
        x.ring(2);
        due("38: servedIn(1)", x, () -> x.servedIn(1), 0);
        due("38: servedIn(2)", x, () -> x.servedIn(2), 1);
        due("38: servedIn(4)", x, () -> x.servedIn(4), 1);
        due("38: servedIn(5)", x, () -> x.servedIn(5), 2);
        due("38: servedIn(11)", x, () -> x.servedIn(11), 2);
        due("38: servedIn(12)", x, () -> x.servedIn(12), 3);
        due("38: servedIn(60)", x, () -> x.servedIn(60), 3);
        Check.due("38: as they go by", x.pass(12), 3);
        due("38: of what went by", x, () -> x.servedIn(60), 0);
        for (int wrong : new int[] {0, -1, 61, Integer.MAX_VALUE, Integer.MIN_VALUE}) {
            Check.illegal("38: servedIn(" + wrong + ")", x, () -> x.servedIn(wrong));
        }
    }

    private static void bestToCross() {
        HouseBells x = Check.house(Check.floors(0, 0, 0), 1);
        due("39: when none waits", x, () -> x.bestToCross(0), -1);
        x.cross(0, 1);
        x.ring(0);
        due("39: of a crossed wire", x, () -> x.bestToCross(0), 1);
        due("39: of the other", x, () -> x.bestToCross(1), 0);
        due("39: of a third", x, () -> x.bestToCross(2), -1);
        due("39: the wires stay", x, () -> x.dropOf(0), 1);
        x.cross(0, 1);
        x.ring(0);
        due("39: when it is no greater", x, () -> x.bestToCross(0), -1);
        HouseBells alone = Check.house(Check.floors(0), 1);
        alone.ring(0);
        due("39: of the only room", alone, () -> alone.bestToCross(0), -1);
    }

    private static void bestToCrossOfSeveral() {
        // Only room 0 is heard: with each crossing it brings a servant to one of those who wait, 0, 2 or 3.
        HouseBells x = Check.house(Check.floors(0, 0, 0, 0), 1);
        x.cut(1);
        x.cut(2);
        x.cut(3);
        x.cross(0, 1);
        x.ring(0);
        x.ring(2);
        x.ring(3);
        x.putUp(1);
        due("39: of several the smallest number", x, () -> x.bestToCross(0), 1);
        x.pass(30);
        x.cross(0, 1);
        x.cut(0);
        due("39: when all gave up", x, () -> x.bestToCross(0), -1);
    }

    private static void bestToCrossLooksFarAhead() {
        // Room 0 rings at 9, 18 and 27; a crossing ahead of one of them gets it served.
        HouseBells x = Check.house(Check.floors(5, 5), 1);
        x.cross(0, 1);
        x.ring(0);
        x.putUp(1);
        due("39: of a service at 14", x, () -> x.bestToCross(0), 1);
        x.pass(12);
        due("39: of a service at 19", x, () -> x.bestToCross(0), 1);
        x.pass(12);
        due("39: of a service at 28", x, () -> x.bestToCross(0), 1);
        x.pass(3);
        due("39: behind the last ring", x, () -> x.bestToCross(0), -1);
        HouseBells y = Check.house(Check.floors(5, 5), 1);
        y.cross(0, 1);
        y.cut(0);
        y.ring(0);
        y.mend(0);
        y.recharge(6);
        due("39: of a service at 14 with charge for one ring", y, () -> y.bestToCross(0), 1);
        y.recharge(5);
        due("39: without charge", y, () -> y.bestToCross(0), -1);
    }

    private static void meanWait() {
        HouseBells x = Check.house(Check.floors(0, 0, 0, 0));
        due("40: of none", x, () -> x.meanWait(), 0.0);
        x.ring(0);
        due("40: of one at 0", x, () -> x.meanWait(), 0.0);
        x.pass(5);
        due("40: of one", x, () -> x.meanWait(), 5.0);
        x.ring(3);
        due("40: of two", x, () -> x.meanWait(), 2.5);
        x.pass(2);
        x.ring(1);
        due("40: of three", x, () -> x.meanWait(), 3.0);
        x.pass(2);
        x.ring(1);
        x.ring(2);
        due("40: of four", x, () -> x.meanWait(), 3.75);
        HouseBells y = Check.house(Check.floors(0, 0, 0));
        y.ring(0);
        y.pass(1);
        y.ring(1);
        y.ring(2);
        due("40: of a third", y, () -> y.meanWait(), 1.0 / 3);
    }

    private static void digestOfNewHouse() {
        long[] numbers = {0, 0, 0, 200, 0, 0, 0, 0, -1, 0, 0, 0, -1, 0};
        HouseBells x = new HouseBells();
        due("41: of a new house", x, () -> x.digest(), mix(2377, numbers));
    }

    private static void digest() {
        HouseBells x = Check.house(Check.floors(3, 0), 2);
        x.cross(0, 1);
        x.cut(1);
        x.ring(0);
        x.ring(1);
        x.pass(1);
        // The drop 1 has fallen by the ring of room 0; the servant goes to room 1, on floor 0.
        long[] numbers = {1, 2, 1, 196, 0, 0, 0, 1, 0, 2, 1, 0, -1, 1,
            1, 1, 0, 1, -1, 49, -1, -1, 1,
            0, 0, 1, 1, -1, 0, -1, 1, 0,
            0, 1, -1, 1};
        due("41: of a house", x, () -> x.digest(), mix(2377, numbers));
    }

    private static void digestLooksTwentyMinutesAhead() {
        HouseBells x = waitingThree(8);
        due("41: with a third service at 20", x, () -> x.digest(), digestOf(x, 3));
        HouseBells y = waitingThree(9);
        due("41: with a third service at 21", y, () -> y.digest(), digestOf(y, 2));
    }

    /** One servant serves room 0 at 2, room 1 behind the need of room 0, then room 2. */
    private static HouseBells waitingThree(int need) {
        HouseBells x = new HouseBells();
        x.addRoom(0, 9, need);
        x.addRoom(0, 9, 8);
        x.addRoom(0, 9, 1);
        x.addServant(1);
        x.ring(0);
        x.ring(1);
        x.ring(2);
        return x;
    }

    /** The digest by the class's own answers, but for servedIn(20). */
    private static long digestOf(HouseBells x, int servedInTwenty) {
        long[] house = {x.minute(), x.rooms(), x.servants(), x.charge(), x.served(), x.inVain(), x.gaveUp(),
            x.unheard(), x.longestWaiting(), x.crossed(), x.crossingsNeeded(), x.fallen(), x.nextDrop(), servedInTwenty};
        long d = mix(2377, house);
        for (int r = 0; r < x.rooms(); r++) {
            long[] room = {x.dropOf(r), x.roomOf(r), x.isCut(r) ? 1 : 0, x.waitedFor(r), x.placeInLine(r),
                x.ringsLeft(r), x.nearestIdle(r), x.minutesUntilServed(r), x.bestToCross(r)};
            d = mix(d, room);
        }
        for (int s = 0; s < x.servants(); s++) {
            long[] servant = {x.floorOf(s), x.goesTo(s), x.serves(s), x.minutesLeft(s)};
            d = mix(d, servant);
        }
        return d;
    }

    private static long mix(long start, long[] numbers) {
        long d = start;
        for (long number : numbers) {
            d = d * 31 + number;
        }
        return d;
    }
}
