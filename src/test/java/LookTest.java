/** Promises 11 to 36: what the house answers of itself. */
public final class LookTest {
    public static void main(String[] args) {
        counts();
        unheard();
        dropsAndRooms();
        cutAndWaiting();
        longestWaiting();
        crossings();
        line();
        ringsLeft();
        servants();
        ways();
        nearestIdle();
        Check.finish("LookTest");
    }

    private static void counts() {
        HouseBells x = Check.house(Check.floors(0, 0, 5), 1);
        Check.due("12: rooms", x.rooms(), 3);
        Check.due("13: servants", x.servants(), 1);
        Check.due("14: charge at first", x.charge(), 200);
        x.ring(0);
        x.ring(2);
        Check.due("14: charge", x.charge(), 193);
        x.pass(2);
        Check.due("11: minute", x.minute(), 2);
        Check.due("15: served", x.served(), 1);
        x.pass(60);
        Check.due("11: minute later", x.minute(), 62);
        Check.due("15: served in all", x.served(), 2);
        Check.due("16: inVain by a ring in the minute of the service", x.inVain(), 1);
        Check.due("17: none gave up", x.gaveUp(), 0);
        x.cross(0, 1);
        x.ring(0);
        x.pass(35);
        Check.due("16: inVain by the rings of 0, 9, 18 and 27", x.inVain(), 5);
        Check.due("17: gaveUp", x.gaveUp(), 1);
        Check.due("15: served as before", x.served(), 2);
        x.ring(0);
        x.ring(1);
        x.ring(2);
        x.cut(0);
        x.cut(1);
        x.cut(2);
        x.putUp(0);
        x.putUp(1);
        x.putUp(2);
        x.pass(30);
        Check.due("17: gaveUp of all", x.gaveUp(), 4);
        Check.due("18: unheard of all at 9, 18 and 27", x.unheard(), 9);
    }

    private static void unheard() {
        HouseBells x = Check.house(Check.floors(2, 0));
        x.recharge(3);
        x.ring(0);
        Check.due("18: heard", x.unheard(), 0);
        x.ring(1);
        Check.due("18: without charge", x.unheard(), 1);
        x.ring(1);
        Check.due("18: again", x.unheard(), 2);
        x.recharge(50);
        x.cut(1);
        x.ring(1);
        Check.due("18: by a cut wire", x.unheard(), 3);
        x.pass(9);
        Check.due("18: in a minute", x.unheard(), 4);
    }

    private static void dropsAndRooms() {
        HouseBells x = Check.house(Check.floors(0, 1, 2, 3));
        x.cross(0, 1);
        x.cross(1, 2);
        int[] drops = {1, 2, 0, 3};
        int[] rooms = {2, 0, 1, 3};
        for (int number = 0; number < 4; number++) {
            Check.due("19: dropOf(" + number + ")", x.dropOf(number), drops[number]);
            Check.due("20: roomOf(" + number + ")", x.roomOf(number), rooms[number]);
        }
    }

    private static void cutAndWaiting() {
        HouseBells x = Check.house(Check.floors(0, 1));
        Check.due("21: isCut at first", x.isCut(1), false);
        x.cut(1);
        Check.due("21: isCut", x.isCut(1), true);
        Check.due("21: isCut of another", x.isCut(0), false);
        x.cross(0, 1);
        Check.due("21: isCut stays with the room", x.isCut(1), true);
        x.mend(1);
        Check.due("21: isCut when mended", x.isCut(1), false);
        Check.due("22: waitedFor at first", x.waitedFor(0), -1);
        x.ring(0);
        Check.due("22: waitedFor when it rings", x.waitedFor(0), 0);
        x.pass(7);
        Check.due("22: waitedFor later", x.waitedFor(0), 7);
        Check.due("22: waitedFor of another", x.waitedFor(1), -1);
    }

    private static void longestWaiting() {
        HouseBells x = Check.house(Check.floors(0, 0, 0));
        Check.due("23: longestWaiting of none", x.longestWaiting(), -1);
        x.ring(2);
        Check.due("23: longestWaiting of one at 0", x.longestWaiting(), 2);
        x.ring(1);
        Check.due("23: of several the smallest number", x.longestWaiting(), 1);
        x.pass(1);
        x.ring(0);
        Check.due("23: a smaller number that waits less", x.longestWaiting(), 1);
        x.pass(29);
        Check.due("23: when those gave up", x.longestWaiting(), 0);
        x.pass(1);
        Check.due("23: when all gave up", x.longestWaiting(), -1);
    }

    private static void crossings() {
        HouseBells x = Check.house(Check.floors(0, 0, 0, 0, 0, 0, 0));
        Check.due("24: crossed at first", x.crossed(), 0);
        Check.due("25: crossingsNeeded at first", x.crossingsNeeded(), 0);
        x.cross(0, 5);
        Check.due("24: crossed two", x.crossed(), 2);
        Check.due("25: crossingsNeeded of two", x.crossingsNeeded(), 1);
        x.cross(5, 3);
        Check.due("24: crossed three", x.crossed(), 3);
        Check.due("25: crossingsNeeded of three", x.crossingsNeeded(), 2);
        x.cross(1, 6);
        Check.due("24: crossed two circles", x.crossed(), 5);
        Check.due("25: crossingsNeeded of two circles", x.crossingsNeeded(), 3);
        x.cross(6, 0);
        Check.due("25: crossingsNeeded of one circle of five", x.crossingsNeeded(), 4);
        Check.due("24: crossed in it", x.crossed(), 5);
        x.cross(0, 6);
        x.cross(1, 6);
        x.cross(3, 5);
        x.cross(5, 0);
        Check.due("24: crossed back", x.crossed(), 0);
        Check.due("25: crossingsNeeded back", x.crossingsNeeded(), 0);
        for (int room = 1; room < 7; room++) {
            x.cross(room - 1, room);
        }
        Check.due("25: crossingsNeeded of a circle of all", x.crossingsNeeded(), 6);
        Check.due("24: crossed of all", x.crossed(), 7);
    }

    private static void line() {
        HouseBells x = Check.house(Check.floors(0, 0, 0, 0));
        Check.due("26: fallen at first", x.fallen(), 0);
        Check.due("27: hasFallen at first", x.hasFallen(0), false);
        Check.due("28: placeInLine at first", x.placeInLine(0), -1);
        Check.due("29: nextDrop at first", x.nextDrop(), -1);
        x.cross(0, 3);
        x.ring(0);
        x.ring(1);
        x.ring(3);
        Check.due("26: fallen", x.fallen(), 3);
        Check.due("27: hasFallen", x.hasFallen(3), true);
        Check.due("27: hasFallen of one that stands", x.hasFallen(2), false);
        Check.due("28: placeInLine of the first", x.placeInLine(3), 0);
        Check.due("28: placeInLine of the second", x.placeInLine(1), 1);
        Check.due("28: placeInLine of the third", x.placeInLine(0), 2);
        Check.due("28: placeInLine of one that stands", x.placeInLine(2), -1);
        Check.due("29: nextDrop", x.nextDrop(), 3);
        x.addServant(1);
        x.pass(1);
        Check.due("29: nextDrop when one was sent", x.nextDrop(), 1);
        Check.due("28: placeInLine moves up", x.placeInLine(0), 1);
        Check.due("26: fallen when one was sent", x.fallen(), 2);
        Check.due("27: hasFallen when one was sent", x.hasFallen(3), false);
        x.ring(0);
        Check.due("28: placeInLine when it falls again", x.placeInLine(3), 2);
    }

    private static void ringsLeft() {
        HouseBells x = Check.house(Check.floors(0, 2, 5));
        Check.due("30: ringsLeft of floor 0", x.ringsLeft(0), 200);
        Check.due("30: ringsLeft of floor 2", x.ringsLeft(1), 66);
        Check.due("30: ringsLeft of floor 5", x.ringsLeft(2), 33);
        x.recharge(5);
        Check.due("30: ringsLeft with too little charge", x.ringsLeft(2), 0);
        x.recharge(6);
        Check.due("30: ringsLeft with just enough", x.ringsLeft(2), 1);
        x.cut(2);
        Check.due("30: ringsLeft of a cut wire", x.ringsLeft(2), 0);
        x.cross(1, 2);
        Check.due("30: ringsLeft of a crossed wire", x.ringsLeft(1), 2);
        Check.due("30: nothing is taken", x.charge(), 6);
        x.ring(1);
        Check.due("30: ringsLeft with its drop fallen", x.ringsLeft(1), 1);
    }

    private static void servants() {
        HouseBells x = Check.house(Check.floors(5, 2), 1, 4);
        x.ring(0);
        x.ring(1);
        x.pass(1);
        Check.due("31: floorOf one who goes", x.floorOf(0), 0);
        Check.due("32: goesTo of the slow one", x.goesTo(0), 1);
        Check.due("32: goesTo of the fast one", x.goesTo(1), 0);
        Check.due("33: serves of one who goes", x.serves(1), -1);
        Check.due("34: minutesLeft of the slow one", x.minutesLeft(0), 2);
        Check.due("34: minutesLeft of the fast one", x.minutesLeft(1), 2);
        x.pass(1);
        Check.due("31: floorOf one under way", x.floorOf(1), 0);
        Check.due("34: minutesLeft of one under way", x.minutesLeft(1), 1);
        x.pass(1);
        Check.due("31: floorOf one who serves", x.floorOf(1), 5);
        Check.due("32: goesTo of one who serves", x.goesTo(1), -1);
        Check.due("33: serves", x.serves(1), 0);
        Check.due("33: serves of the other", x.serves(0), 1);
        Check.due("34: minutesLeft of one who serves", x.minutesLeft(0), 2);
        x.pass(2);
        Check.due("31: floorOf one who is idle", x.floorOf(0), 2);
        Check.due("33: serves of one who is idle", x.serves(0), -1);
        Check.due("34: minutesLeft of one who is idle", x.minutesLeft(0), 0);
    }

    private static void ways() {
        HouseBells x = Check.house(Check.floors(0, 1, 2, 3, 4, 5), 1, 2, 3, 4);
        int[][] minutes = {{1, 1, 2, 3, 4, 5}, {1, 1, 1, 2, 2, 3}, {1, 1, 1, 1, 2, 2}, {1, 1, 1, 1, 1, 2}};
        for (int servant = 0; servant < 4; servant++) {
            for (int room = 0; room < 6; room++) {
                Check.due("35: wayTo(" + servant + ", " + room + ")", x.wayTo(servant, room), minutes[servant][room]);
            }
        }
        HouseBells y = Check.house(Check.floors(4, 0), 1);
        y.ring(0);
        y.pass(2);
        Check.due("35: wayTo of one who goes, from where", y.wayTo(0, 0), 4);
        y.pass(3);
        Check.due("35: wayTo of one who serves", y.wayTo(0, 0), 1);
        Check.due("35: wayTo down", y.wayTo(0, 1), 4);
        HouseBells z = Check.house(Check.floors(2, 5), 2);
        z.ring(0);
        z.pass(2);
        Check.due("35: wayTo up from floor 2", z.wayTo(0, 1), 2);
        Check.outside("35: wayTo(1, 0)", y, () -> y.wayTo(1, 0));
        Check.outside("35: wayTo(-1, 0)", y, () -> y.wayTo(-1, 0));
        Check.outside("35: wayTo(0, 2)", y, () -> y.wayTo(0, 2));
        Check.outside("35: wayTo(0, -1)", y, () -> y.wayTo(0, -1));
        Check.outside("35: wayTo(most, least)", y, () -> y.wayTo(Integer.MAX_VALUE, Integer.MIN_VALUE));
    }

    private static void nearestIdle() {
        HouseBells x = Check.house(Check.floors(0, 3, 5));
        Check.due("36: nearestIdle without servants", x.nearestIdle(0), -1);
        x.addServant(1);
        x.addServant(3);
        x.addServant(4);
        Check.due("36: of several the smallest number", x.nearestIdle(0), 0);
        Check.due("36: the shortest way", x.nearestIdle(1), 1);
        Check.due("36: of two the smallest number", x.nearestIdle(2), 1);
        x.ring(2);
        x.pass(1);
        Check.due("36: not one who goes", x.nearestIdle(1), 2);
        x.pass(2);
        Check.due("36: not one who serves", x.nearestIdle(2), 2);
        x.pass(2);
        Check.due("36: by the floor on which he is", x.nearestIdle(1), 1);
        Check.due("36: another is nearer below", x.nearestIdle(0), 0);
        x.ring(0);
        x.ring(1);
        x.ring(2);
        x.pass(1);
        Check.due("36: none is idle", x.nearestIdle(0), -1);
    }
}
