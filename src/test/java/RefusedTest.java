/**
 * "A method that throws an exception changes nothing": each call that is refused, with the exception that is due, on
 * houses with nothing, with one of each, and with as much as there can be; and the calls of which the document says
 * that nothing is changed.
 */
public final class RefusedTest {
    private static final Class<?> OUTSIDE = IndexOutOfBoundsException.class;
    private static final Class<?> ILLEGAL = IllegalArgumentException.class;
    private static final Class<?> STATE = IllegalStateException.class;

    private final String name;
    private final Check.Maker maker;
    private final int rooms;
    private final int servants;

    private RefusedTest(String name, Check.Maker maker, int rooms, int servants) {
        this.name = name;
        this.maker = maker;
        this.rooms = rooms;
        this.servants = servants;
    }

    public static void main(String[] args) {
        fullHouseIsInTheMidstOfIt();
        RefusedTest[] houses = {
            new RefusedTest("empty: ", Houses::empty, 0, 0),
            new RefusedTest("one: ", Houses::one, 1, 1),
            new RefusedTest("full: ", Houses::full, 12, 6)};
        for (RefusedTest house : houses) {
            house.numbersOutsideOfTheirBounds();
            house.roomsThatAreNot();
            house.servantsThatAreNot();
        }
        houses[1].sameOrWhole(0);
        houses[2].sameOrWhole(11);
        new RefusedTest("one cut: ", Houses::oneCut, 1, 1).cutOrStanding(0, 0);
        houses[2].cutOrStanding(9, 11);
        houses[2].cutOrStanding(4, 0);
        houses[2].noMoreThanThereAre();
        houses[1].looksChangeNothing();
        houses[2].looksChangeNothing();
        Check.finish("RefusedTest");
    }

    private void refused(String what, Class<?> exception, Check.Ask ask) {
        Check.refusedLikeTwin(name + what, maker, exception, ask);
    }

    private void changesNothing(String what, Check.Ask ask) {
        Check.changesNothing(name + what, maker, ask);
    }

    /** A refused call could only be seen to change what is there. */
    private static void fullHouseIsInTheMidstOfIt() {
        HouseBells x = Houses.full();
        Check.due("full: rooms", x.rooms(), 12);
        Check.due("full: servants", x.servants(), 6);
        Check.due("full: one serves", x.serves(0), 3);
        Check.due("full: one goes", x.goesTo(1), 11);
        Check.due("full: one is idle", x.minutesLeft(5), 0);
        Check.due("full: fallen", x.fallen(), 3);
        Check.due("full: one fell by a crossed wire", x.placeInLine(2), 2);
        Check.due("full: crossed", x.crossed(), 5);
        Check.due("full: one waits", x.waitedFor(0), 6);
        Check.due("full: one is cut", x.isCut(9), true);
    }

    private void numbersOutsideOfTheirBounds() {
        for (int floor : outsideOf(0, 5)) {
            refused("2: addRoom(" + floor + ", 1, 1)", ILLEGAL, x -> x.addRoom(floor, 1, 1));
            refused("2: addRoom(" + floor + ", 9, 9)", ILLEGAL, x -> x.addRoom(floor, 9, 9));
        }
        for (int wrong : outsideOf(1, 9)) {
            refused("2: addRoom(0, " + wrong + ", 1)", ILLEGAL, x -> x.addRoom(0, wrong, 1));
            refused("2: addRoom(5, " + wrong + ", 9)", ILLEGAL, x -> x.addRoom(5, wrong, 9));
            refused("2: addRoom(0, 1, " + wrong + ")", ILLEGAL, x -> x.addRoom(0, 1, wrong));
            refused("2: addRoom(5, 9, " + wrong + ")", ILLEGAL, x -> x.addRoom(5, 9, wrong));
        }
        refused("2: addRoom(6, 0, 10)", ILLEGAL, x -> x.addRoom(6, 0, 10));
        for (int pace : outsideOf(1, 4)) {
            refused("3: addServant(" + pace + ")", ILLEGAL, x -> x.addServant(pace));
        }
        for (int charge : outsideOf(0, 500)) {
            refused("8: recharge(" + charge + ")", ILLEGAL, x -> x.recharge(charge));
        }
        for (int minutes : outsideOf(1, 60)) {
            refused("10: pass(" + minutes + ")", ILLEGAL, x -> x.pass(minutes));
            refused("38: servedIn(" + minutes + ")", ILLEGAL, x -> x.servedIn(minutes));
        }
    }

    /** "if there is no such room", "if there is no such drop"; both have the same numbers. */
    private void roomsThatAreNot() {
        for (int wrong : outsideOf(0, rooms - 1)) {
            String of = "(" + wrong + ")";
            refused("4: ring" + of, OUTSIDE, x -> x.ring(wrong));
            refused("6: cut" + of, OUTSIDE, x -> x.cut(wrong));
            refused("7: mend" + of, OUTSIDE, x -> x.mend(wrong));
            refused("9: putUp" + of, OUTSIDE, x -> x.putUp(wrong));
            refused("19: dropOf" + of, OUTSIDE, x -> x.dropOf(wrong));
            refused("20: roomOf" + of, OUTSIDE, x -> x.roomOf(wrong));
            refused("21: isCut" + of, OUTSIDE, x -> x.isCut(wrong));
            refused("22: waitedFor" + of, OUTSIDE, x -> x.waitedFor(wrong));
            refused("27: hasFallen" + of, OUTSIDE, x -> x.hasFallen(wrong));
            refused("28: placeInLine" + of, OUTSIDE, x -> x.placeInLine(wrong));
            refused("30: ringsLeft" + of, OUTSIDE, x -> x.ringsLeft(wrong));
            refused("36: nearestIdle" + of, OUTSIDE, x -> x.nearestIdle(wrong));
            refused("37: minutesUntilServed" + of, OUTSIDE, x -> x.minutesUntilServed(wrong));
            refused("39: bestToCross" + of, OUTSIDE, x -> x.bestToCross(wrong));
            refused("35: wayTo(0, " + wrong + ")", OUTSIDE, x -> x.wayTo(0, wrong));
            refused("5: cross(" + wrong + ", 0)", OUTSIDE, x -> x.cross(wrong, 0));
            refused("5: cross(0, " + wrong + ")", OUTSIDE, x -> x.cross(0, wrong));
            // Both exceptions apply; that of no such room is named first.
            refused("5: cross(" + wrong + ", " + wrong + ")", OUTSIDE, x -> x.cross(wrong, wrong));
        }
    }

    /** "if there is no such servant". */
    private void servantsThatAreNot() {
        for (int wrong : outsideOf(0, servants - 1)) {
            String of = "(" + wrong + ")";
            refused("31: floorOf" + of, OUTSIDE, x -> x.floorOf(wrong));
            refused("32: goesTo" + of, OUTSIDE, x -> x.goesTo(wrong));
            refused("33: serves" + of, OUTSIDE, x -> x.serves(wrong));
            refused("34: minutesLeft" + of, OUTSIDE, x -> x.minutesLeft(wrong));
            refused("35: wayTo(" + wrong + ", 0)", OUTSIDE, x -> x.wayTo(wrong, 0));
            refused("35: wayTo(" + wrong + ", " + rooms + ")", OUTSIDE, x -> x.wayTo(wrong, rooms));
        }
    }

    /** "if both are the same", "if it is whole", of the first and the last room. */
    private void sameOrWhole(int last) {
        refused("5: cross(0, 0)", ILLEGAL, x -> x.cross(0, 0));
        refused("5: cross of the last with itself", ILLEGAL, x -> x.cross(last, last));
        refused("7: mend of the first, which is whole", STATE, x -> x.mend(0));
        refused("7: mend of the last, which is whole", STATE, x -> x.mend(last));
    }

    /** "if it is cut", "if it stands". */
    private void cutOrStanding(int cut, int standing) {
        refused("6: cut of one that is cut", STATE, x -> x.cut(cut));
        refused("9: putUp of one that stands", STATE, x -> x.putUp(standing));
    }

    /** "if there are 12", "if there are 6". */
    private void noMoreThanThereAre() {
        refused("2: a thirteenth room", STATE, x -> x.addRoom(0, 1, 1));
        refused("2: a thirteenth room, of the most", STATE, x -> x.addRoom(5, 9, 9));
        refused("3: a seventh servant", STATE, x -> x.addServant(1));
        refused("3: a seventh servant, the fastest", STATE, x -> x.addServant(4));
    }

    private void looksChangeNothing() {
        for (int room : new int[] {0, rooms - 1}) {
            String of = "(" + room + ")";
            changesNothing("19: dropOf" + of, x -> x.dropOf(room));
            changesNothing("20: roomOf" + of, x -> x.roomOf(room));
            changesNothing("21: isCut" + of, x -> x.isCut(room));
            changesNothing("22: waitedFor" + of, x -> x.waitedFor(room));
            changesNothing("27: hasFallen" + of, x -> x.hasFallen(room));
            changesNothing("28: placeInLine" + of, x -> x.placeInLine(room));
            changesNothing("30: ringsLeft" + of, x -> x.ringsLeft(room));
            changesNothing("36: nearestIdle" + of, x -> x.nearestIdle(room));
            changesNothing("37: minutesUntilServed" + of, x -> x.minutesUntilServed(room));
            changesNothing("39: bestToCross" + of, x -> x.bestToCross(room));
            changesNothing("35: wayTo(0, " + room + ")", x -> x.wayTo(0, room));
        }
        for (int minutes : new int[] {1, 29, 30, 60}) {
            changesNothing("38: servedIn(" + minutes + ")", x -> x.servedIn(minutes));
        }
        changesNothing("41: digest", x -> x.digest());
    }

    /** The next numbers on both sides of the bounds, and the farthest. */
    private static int[] outsideOf(int least, int most) {
        return new int[] {least - 1, most + 1, Integer.MIN_VALUE, Integer.MAX_VALUE};
    }
}
