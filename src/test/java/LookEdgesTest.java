/**
 * Promises 11 to 36 at their edges: nothing there yet, one, and as many as there can be. The words above each test are
 * the document's; what is refused is looked at in RefusedTest.
 */
public final class LookEdgesTest {
    private static final int[] SIX_OF_PACE_1 = {1, 1, 1, 1, 1, 1};

    public static void main(String[] args) {
        minutes();
        roomsAndServants();
        chargeAtItsBounds();
        servedByAll();
        inVainByAll();
        gaveUpByAll();
        unheardByAll();
        unheardByHandAndInAMinute();
        dropsAndRooms();
        cutOfAll();
        waitedFor();
        longestWaitingOfNoneAndOne();
        longestWaitingOfSeveral();
        crossedOfNoneAndTwo();
        crossingsOfCircles();
        crossingsAreTheLeast();
        fallenOfAll();
        placesInLine();
        ringsLeftWithJustEnough();
        ringsLeftWithAllThereCanBe();
        ringsLeftByCutWire();
        ringsLeftOfCrossedWire();
        ringsLeftAreHeard();
        floorsOfServants();
        whatServantsDo();
        theLastServant();
        minutesLeftAtItsBounds();
        wayBetweenAllFloors();
        wayOfWhoGoes();
        nearestIdleOfNone();
        nearestIdleOfSix();
        nearestIdleByTheWay();
        fiveHundredAndTwelveCalls();
        Check.finish("LookEdgesTest");
    }

    /** "Time is told in minutes, from 0." */
    private static void minutes() {
        HouseBells x = new HouseBells();
        Check.due("11: at first", x.minute(), 0);
        x.addRoom(0, 1, 1);
        x.addServant(1);
        x.ring(0);
        Check.due("11: nothing but pass takes a minute", x.minute(), 0);
        x.pass(1);
        Check.due("11: behind one", x.minute(), 1);
        x.pass(60);
        Check.due("11: behind the most at once", x.minute(), 61);
        x.servedIn(60);
        x.minutesUntilServed(0);
        x.bestToCross(0);
        Check.due("11: what would be takes none", x.minute(), 61);
    }

    private static void roomsAndServants() {
        HouseBells x = new HouseBells();
        for (int count = 0; count < 6; count++) {
            Check.due("12: rooms", x.rooms(), count);
            Check.due("13: servants", x.servants(), count);
            x.addRoom(0, 1, 1);
            x.addServant(1);
        }
        Check.due("12: rooms are not servants", x.addRoom(0, 1, 1), 6);
        Check.due("12: seven rooms", x.rooms(), 7);
        Check.due("13: six servants", x.servants(), 6);
    }

    /** "The battery has a charge, 0 to 500 (200, at first)." */
    private static void chargeAtItsBounds() {
        HouseBells x = Check.house(Check.floors(5));
        Check.due("14: at first", x.charge(), 200);
        x.recharge(500);
        Check.due("14: the most", x.charge(), 500);
        x.ring(0);
        Check.due("14: behind a ring", x.charge(), 494);
        x.recharge(6);
        x.ring(0);
        Check.due("14: the least", x.charge(), 0);
        x.ring(0);
        Check.due("14: no less", x.charge(), 0);
    }

    /** "how often a servant began to serve a room in all": when he begins, not when he ends. */
    private static void servedByAll() {
        HouseBells x = Check.house(Check.twelveFloors(), SIX_OF_PACE_1);
        Check.due("15: at first", x.served(), 0);
        x.ring(0);
        x.pass(1);
        Check.due("15: on the way", x.served(), 0);
        x.pass(1);
        Check.due("15: one begins", x.served(), 1);
        x.pass(2);
        Check.due("15: one ends", x.served(), 1);
        for (int room = 0; room < 6; room++) {
            x.ring(room);
        }
        x.pass(2);
        Check.due("15: six begin in one minute", x.served(), 7);
        x.ring(0);
        x.pass(4);
        Check.due("15: the same room again", x.served(), 8);
    }

    private static void inVainByAll() {
        HouseBells x = Check.house(Check.twelveFloors(), SIX_OF_PACE_1);
        Check.due("16: at first", x.inVain(), 0);
        x.cross(0, 11);
        x.ring(0);
        x.pass(1);
        Check.due("16: on the way", x.inVain(), 0);
        x.pass(1);
        Check.due("16: one", x.inVain(), 1);
        for (int room = 1; room < 7; room++) {
            x.ring(room);
        }
        x.pass(29);
        Check.due("16: a service is not in vain", x.served(), 6);
        Check.due("16: in vain for who rings at 9, 18 and 27", x.inVain(), 4);
    }

    private static void gaveUpByAll() {
        HouseBells x = Check.house(Check.twelveFloors());
        Check.due("17: at first", x.gaveUp(), 0);
        x.ring(11);
        x.pass(29);
        Check.due("17: at 29", x.gaveUp(), 0);
        x.pass(1);
        Check.due("17: one", x.gaveUp(), 1);
        Check.ringAll(x);
        x.pass(30);
        Check.due("17: twelve more", x.gaveUp(), 13);
    }

    private static void unheardByAll() {
        HouseBells x = Check.house(Check.twelveFloors());
        Check.due("18: at first", x.unheard(), 0);
        Check.ringAll(x);
        Check.due("18: all are heard", x.unheard(), 0);
        x.recharge(0);
        x.ring(0);
        Check.due("18: one", x.unheard(), 1);
        x.pass(9);
        Check.due("18: twelve in one minute", x.unheard(), 13);
    }

    /** "how many rings were not heard in all": without charge and by a cut wire, each counts once. */
    private static void unheardByHandAndInAMinute() {
        HouseBells x = new HouseBells();
        x.addRoom(0, 1, 1);
        x.cut(0);
        x.recharge(0);
        x.ring(0);
        Check.due("18: both reasons", x.unheard(), 1);
        x.pass(29);
        Check.due("18: each minute until 29", x.unheard(), 30);
        x.pass(1);
        Check.due("18: none at 30", x.unheard(), 30);
    }

    /** "(at first to that of its own number)", "no two to the same". */
    private static void dropsAndRooms() {
        HouseBells x = Check.house(Check.floors(0));
        Check.due("19: of the only one", x.dropOf(0), 0);
        Check.due("20: of the only one", x.roomOf(0), 0);
        HouseBells y = Check.house(Check.twelveFloors());
        y.cross(0, 11);
        y.cross(11, 5);
        Check.due("19: of the first", y.dropOf(0), 11);
        Check.due("19: of the last", y.dropOf(11), 5);
        Check.due("19: amid them", y.dropOf(5), 0);
        Check.due("20: of the first", y.roomOf(0), 5);
        Check.due("20: of the last", y.roomOf(11), 0);
        Check.due("20: amid them", y.roomOf(5), 11);
        Check.due("19: of one beside it", y.dropOf(10), 10);
        Check.due("20: of one beside it", y.roomOf(10), 10);
        y.cut(0);
        Check.due("19: of a cut one", y.dropOf(0), 11);
        Check.due("20: by a cut one", y.roomOf(11), 0);
    }

    private static void cutOfAll() {
        HouseBells x = Check.house(Check.twelveFloors());
        for (int room = 0; room < 12; room++) {
            Check.due("21: at first", x.isCut(room), false);
            x.cut(room);
        }
        x.cross(0, 11);
        for (int room = 0; room < 12; room++) {
            Check.due("21: all", x.isCut(room), true);
        }
        x.mend(11);
        Check.due("21: the last is whole", x.isCut(11), false);
        Check.due("21: the first is cut", x.isCut(0), true);
    }

    /** "-1 if it does not wait"; 0 is to wait. */
    private static void waitedFor() {
        HouseBells x = Check.house(Check.floors(0), 1);
        Check.due("22: at first", x.waitedFor(0), -1);
        x.ring(0);
        Check.due("22: it rings", x.waitedFor(0), 0);
        x.pass(1);
        Check.due("22: a minute", x.waitedFor(0), 1);
        x.pass(1);
        Check.due("22: it is served", x.waitedFor(0), -1);
        HouseBells y = Check.house(Check.twelveFloors());
        y.ring(11);
        y.pass(29);
        Check.due("22: the most", y.waitedFor(11), 29);
        Check.due("22: one beside it", y.waitedFor(10), -1);
        y.pass(1);
        Check.due("22: it gave up", y.waitedFor(11), -1);
    }

    /** "-1 if none waits". */
    private static void longestWaitingOfNoneAndOne() {
        HouseBells x = new HouseBells();
        Check.due("23: without rooms", x.longestWaiting(), -1);
        x.addRoom(0, 9, 1);
        Check.due("23: none waits", x.longestWaiting(), -1);
        x.ring(0);
        Check.due("23: the only one, at 0", x.longestWaiting(), 0);
        x.pass(29);
        Check.due("23: the only one, at 29", x.longestWaiting(), 0);
        x.pass(1);
        Check.due("23: it gave up", x.longestWaiting(), -1);
        HouseBells y = Check.house(Check.twelveFloors());
        y.ring(11);
        Check.due("23: the last of twelve", y.longestWaiting(), 11);
    }

    /** "that has waited the longest, of several the smallest number". */
    private static void longestWaitingOfSeveral() {
        HouseBells x = Check.house(Check.twelveFloors());
        Check.ringAll(x);
        Check.due("23: all as long", x.longestWaiting(), 0);
        x.pass(30);
        x.ring(11);
        x.pass(1);
        x.ring(0);
        Check.due("23: the last for a minute more", x.longestWaiting(), 11);
        x.ring(11);
        Check.due("23: a ring does not make it wait less", x.longestWaiting(), 11);
        x.pass(28);
        Check.due("23: at 29 and 28", x.longestWaiting(), 11);
        x.pass(1);
        Check.due("23: at 30 and 29", x.longestWaiting(), 0);
    }

    /** "how many wires lead to a drop that has not the number of their room". */
    private static void crossedOfNoneAndTwo() {
        HouseBells x = new HouseBells();
        Check.due("24: without rooms", x.crossed(), 0);
        Check.due("25: without rooms", x.crossingsNeeded(), 0);
        x.addRoom(0, 1, 1);
        Check.due("24: of one room", x.crossed(), 0);
        Check.due("25: of one room", x.crossingsNeeded(), 0);
        x.addRoom(0, 1, 1);
        Check.due("24: of two", x.crossed(), 0);
        x.cross(0, 1);
        Check.due("24: two crossed", x.crossed(), 2);
        Check.due("25: two crossed", x.crossingsNeeded(), 1);
        x.cut(0);
        Check.due("24: a cut one counts", x.crossed(), 2);
        Check.due("25: a cut one counts", x.crossingsNeeded(), 1);
        x.cross(1, 0);
        Check.due("24: crossed back", x.crossed(), 0);
        Check.due("25: crossed back", x.crossingsNeeded(), 0);
    }

    /** "how often at least two wires have to be crossed": circles of 2, 3, 4, 6 and 12 among twelve. */
    private static void crossingsOfCircles() {
        for (int size : new int[] {2, 3, 4, 6, 12}) {
            HouseBells x = Check.house(Check.twelveFloors());
            for (int room = 0; room < 12; room++) {
                if (room % size != 0) {
                    x.cross(room - 1, room);
                }
            }
            Check.due("24: circles of " + size, x.crossed(), 12);
            Check.due("25: circles of " + size, x.crossingsNeeded(), 12 - 12 / size);
        }
        HouseBells x = Check.house(Check.twelveFloors());
        x.cross(11, 4);
        x.cross(4, 9);
        Check.due("24: one circle of three", x.crossed(), 3);
        Check.due("25: one circle of three", x.crossingsNeeded(), 2);
    }

    /** "at least": by setting one wire right each time it takes just as many. */
    private static void crossingsAreTheLeast() {
        HouseBells x = Check.house(Check.twelveFloors());
        int[] others = {7, 3, 9, 11, 0, 2, 8, 1, 10, 5, 4, 6};
        for (int room = 0; room < 12; room++) {
            if (others[room] != room) {
                x.cross(room, others[room]);
            }
        }
        int needed = x.crossingsNeeded();
        int done = 0;
        for (int room = 0; room < 12; room++) {
            if (x.dropOf(room) != room) {
                x.cross(room, x.roomOf(room));
                done++;
                Check.due("25: one less", x.crossingsNeeded(), needed - done);
            }
        }
        Check.due("25: as many as it took", needed, done);
        Check.due("24: none is left", x.crossed(), 0);
    }

    private static void fallenOfAll() {
        HouseBells x = new HouseBells();
        Check.due("26: without drops", x.fallen(), 0);
        Check.due("29: without drops", x.nextDrop(), -1);
        HouseBells y = Check.house(Check.twelveFloors());
        Check.due("26: all stand", y.fallen(), 0);
        Check.due("29: all stand", y.nextDrop(), -1);
        y.ring(11);
        Check.due("26: one", y.fallen(), 1);
        Check.due("27: that one", y.hasFallen(11), true);
        Check.due("27: not the one beside it", y.hasFallen(10), false);
        Check.due("29: that one", y.nextDrop(), 11);
        Check.ringAll(y);
        Check.due("26: all", y.fallen(), 12);
        for (int drop = 0; drop < 12; drop++) {
            Check.due("27: all", y.hasFallen(drop), true);
        }
        Check.due("29: the one that fell first", y.nextDrop(), 11);
    }

    /** "how many of those that have fallen fell ahead of it; -1 if it stands". */
    private static void placesInLine() {
        HouseBells x = Check.house(Check.twelveFloors());
        Check.due("28: it stands", x.placeInLine(11), -1);
        for (int room = 11; room >= 0; room--) {
            x.ring(room);
            Check.due("28: the last to fall", x.placeInLine(room), 11 - room);
        }
        Check.due("28: the first to fall", x.placeInLine(11), 0);
        x.putUp(11);
        Check.due("28: it stands again", x.placeInLine(11), -1);
        Check.due("28: the others move up", x.placeInLine(0), 10);
        x.ring(11);
        Check.due("28: it falls behind", x.placeInLine(11), 11);
        HouseBells y = Check.house(Check.floors(0, 0));
        y.cross(0, 1);
        y.ring(0);
        Check.due("28: of the drop, not of the room that rang", y.placeInLine(0), -1);
        Check.due("28: of the drop", y.placeInLine(1), 0);
    }

    /** "how many rings of it, one right behind the other, would be heard now". */
    private static void ringsLeftWithJustEnough() {
        for (int floor = 0; floor <= 5; floor++) {
            HouseBells x = Check.house(Check.floors(floor));
            int takes = floor + 1;
            x.recharge(0);
            Check.due("30: without charge", x.ringsLeft(0), 0);
            x.recharge(takes - 1);
            Check.due("30: a little too little from floor " + floor, x.ringsLeft(0), 0);
            x.recharge(takes);
            Check.due("30: just enough from floor " + floor, x.ringsLeft(0), 1);
            x.recharge(2 * takes - 1);
            Check.due("30: too little for two", x.ringsLeft(0), 1);
            x.recharge(2 * takes);
            Check.due("30: just enough for two", x.ringsLeft(0), 2);
        }
    }

    private static void ringsLeftWithAllThereCanBe() {
        int[] most = {500, 250, 166, 125, 100, 83};
        HouseBells x = Check.house(Check.floors(0, 1, 2, 3, 4, 5));
        x.recharge(500);
        for (int floor = 0; floor <= 5; floor++) {
            Check.due("30: with 500 from floor " + floor, x.ringsLeft(floor), most[floor]);
        }
    }

    private static void ringsLeftByCutWire() {
        HouseBells x = Check.house(Check.floors(0, 0));
        x.recharge(500);
        x.cut(0);
        Check.due("30: by a cut wire", x.ringsLeft(0), 0);
        Check.due("30: by the other", x.ringsLeft(1), 500);
        x.cross(0, 1);
        Check.due("30: by the cut wire, crossed", x.ringsLeft(0), 0);
        x.mend(0);
        Check.due("30: mended", x.ringsLeft(0), 500);
    }

    /** By the floor of the room, not of the drop; heard though the drop has fallen. */
    private static void ringsLeftOfCrossedWire() {
        HouseBells x = Check.house(Check.floors(0, 5));
        x.cross(0, 1);
        Check.due("30: of floor 0", x.ringsLeft(0), 200);
        Check.due("30: of floor 5", x.ringsLeft(1), 33);
        x.ring(0);
        Check.due("30: with its drop fallen", x.ringsLeft(0), 199);
    }

    private static void ringsLeftAreHeard() {
        HouseBells x = Check.house(Check.floors(4));
        int left = x.ringsLeft(0);
        for (int ring = 0; ring < left; ring++) {
            Check.due("30: each is heard", x.ring(0), true);
        }
        Check.due("30: then none is left", x.ringsLeft(0), 0);
        Check.due("30: the next is not heard", x.ring(0), false);
    }

    /** "the floor on which the servant is; for one who goes that from which". */
    private static void floorsOfServants() {
        HouseBells x = Check.house(Check.floors(5, 0), 1);
        Check.due("31: at first", x.floorOf(0), 0);
        x.ring(0);
        x.pass(5);
        Check.due("31: goes, in the last minute", x.floorOf(0), 0);
        x.pass(1);
        Check.due("31: serves", x.floorOf(0), 5);
        x.ring(1);
        x.pass(6);
        Check.due("31: goes down, in the last minute", x.goesTo(0), 1);
        Check.due("31: from floor 5", x.floorOf(0), 5);
        x.pass(1);
        Check.due("31: down", x.floorOf(0), 0);
    }

    /** "-1 if to none", "-1 if none", "0 for one who is idle": of one who is idle, goes, serves, and is idle again. */
    private static void whatServantsDo() {
        HouseBells x = Check.house(Check.floors(0), 1);
        String[] due = {"-1 -1 0", "0 -1 1", "-1 0 2", "-1 0 1", "-1 -1 0"};
        x.ring(0);
        for (int minute = 0; minute < due.length; minute++) {
            Check.due("32 to 34: at " + minute, x.goesTo(0) + " " + x.serves(0) + " " + x.minutesLeft(0), due[minute]);
            x.pass(1);
        }
    }

    /** "numbered from 0", to 5. */
    private static void theLastServant() {
        HouseBells x = Check.house(Check.twelveFloors(), SIX_OF_PACE_1);
        for (int room = 6; room < 12; room++) {
            x.ring(room);
        }
        x.pass(1);
        Check.due("32: the last goes to the last", x.goesTo(5), 11);
        Check.due("33: and serves none yet", x.serves(5), -1);
        x.pass(1);
        Check.due("33: the last serves the last", x.serves(5), 11);
        Check.due("32: and goes to none", x.goesTo(5), -1);
        Check.due("34: for its need", x.minutesLeft(5), 2);
        x.pass(2);
        Check.due("34: idle", x.minutesLeft(5), 0);
        Check.due("31: on its floor", x.floorOf(5), 0);
    }

    /** A way takes 1 to 5 minutes, a need 1 to 9. */
    private static void minutesLeftAtItsBounds() {
        HouseBells x = new HouseBells();
        x.addRoom(5, 9, 9);
        x.addRoom(5, 9, 1);
        x.addServant(1);
        Check.due("34: idle", x.minutesLeft(0), 0);
        x.ring(0);
        x.pass(1);
        Check.due("34: the longest way", x.minutesLeft(0), 5);
        x.pass(4);
        Check.due("34: its last minute", x.minutesLeft(0), 1);
        x.pass(1);
        Check.due("34: the greatest need", x.minutesLeft(0), 9);
        x.pass(8);
        Check.due("34: its last minute", x.minutesLeft(0), 1);
        x.ring(1);
        x.pass(1);
        Check.due("34: the shortest way", x.minutesLeft(0), 1);
        x.pass(1);
        Check.due("34: the least need", x.minutesLeft(0), 1);
        x.pass(1);
        Check.due("34: idle again", x.minutesLeft(0), 0);
    }

    /** "(the floors between both + the pace - 1) / pace minutes, but 1 at least", up and down. */
    private static void wayBetweenAllFloors() {
        int[][] ways = {{1, 1, 2, 3, 4, 5}, {1, 1, 1, 2, 2, 3}, {1, 1, 1, 1, 2, 2}, {1, 1, 1, 1, 1, 2}};
        for (int pace = 1; pace <= 4; pace++) {
            for (int from = 0; from <= 5; from++) {
                HouseBells x = Check.house(Check.floors(0, 1, 2, 3, 4, 5), pace);
                x.ring(from);
                x.pass(8);
                for (int to = 0; to <= 5; to++) {
                    int due = ways[pace - 1][Math.abs(from - to)];
                    Check.due("35: pace " + pace + " from " + from + " to " + to, x.wayTo(0, to), due);
                }
            }
        }
    }

    /** "from the floor of floorOf()": of one who goes, the whole way from where he started. */
    private static void wayOfWhoGoes() {
        HouseBells x = Check.house(Check.floors(4, 1), 1);
        x.ring(0);
        x.pass(1);
        Check.due("35: to where he goes", x.wayTo(0, 0), 4);
        x.pass(3);
        Check.due("35: in the last minute", x.wayTo(0, 0), 4);
        Check.due("35: to another room", x.wayTo(0, 1), 1);
        x.pass(1);
        Check.due("35: when he serves", x.wayTo(0, 0), 1);
        Check.due("35: down again", x.wayTo(0, 1), 3);
    }

    /** "-1 if none is idle". */
    private static void nearestIdleOfNone() {
        HouseBells x = Check.house(Check.floors(0));
        Check.due("36: without servants", x.nearestIdle(0), -1);
        x.addServant(1);
        Check.due("36: the only one", x.nearestIdle(0), 0);
        x.ring(0);
        Check.due("36: he is idle yet", x.nearestIdle(0), 0);
        x.pass(1);
        Check.due("36: he goes", x.nearestIdle(0), -1);
        x.pass(1);
        Check.due("36: he serves", x.nearestIdle(0), -1);
        x.pass(1);
        Check.due("36: he serves yet", x.nearestIdle(0), -1);
        x.pass(1);
        Check.due("36: he is idle again", x.nearestIdle(0), 0);
    }

    /** "of those who are idle", "of several the one with the smallest number": from all six to none. */
    private static void nearestIdleOfSix() {
        HouseBells x = new HouseBells();
        for (int number = 0; number < 6; number++) {
            x.addRoom(0, 9, 9);
            x.addServant(1);
        }
        for (int number = 0; number < 6; number++) {
            Check.due("36: the smallest number of those idle", x.nearestIdle(0), number);
            Check.due("36: of the last room too", x.nearestIdle(5), number);
            x.ring(number);
            x.pass(1);
        }
        Check.due("36: none of six", x.nearestIdle(0), -1);
        x.pass(5);
        Check.due("36: the first is done", x.nearestIdle(5), 0);
    }

    /** "the one with the shortest way": by minutes, not by floors or pace. */
    private static void nearestIdleByTheWay() {
        HouseBells x = Check.house(Check.floors(0, 2, 3, 4, 5), 1, 4, 3, 2);
        Check.due("36: to floor 0 all take 1", x.nearestIdle(0), 0);
        Check.due("36: to floor 2 paces 4, 3 and 2 take 1", x.nearestIdle(1), 1);
        x.ring(4);
        x.pass(1);
        Check.due("36: to floor 3 pace 3 takes 1, pace 2 takes 2", x.nearestIdle(2), 2);
        Check.due("36: to floor 4 paces 3 and 2 take 2", x.nearestIdle(3), 2);
        x.pass(4);
        Check.due("36: pace 4 is on floor 5", x.floorOf(1), 5);
        Check.due("36: to floor 5 he takes 1", x.nearestIdle(4), 1);
        Check.due("36: to floor 0 he takes 2", x.nearestIdle(0), 0);
        Check.due("36: to floor 4 he takes 1", x.nearestIdle(3), 1);
        x.cross(0, 4);
        Check.due("36: of the room, not of its drop", x.nearestIdle(0), 0);
        Check.due("36: of the room on floor 5", x.nearestIdle(4), 1);
    }

    /** "An object is used for at most 512 calls": the last one answers as the first. */
    private static void fiveHundredAndTwelveCalls() {
        HouseBells x = new HouseBells();
        for (int call = 1; call < 512; call++) {
            x.pass(60);
        }
        Check.due("11: the 512th call", x.minute(), 511 * 60);
        HouseBells y = Check.house(Check.floors(5), 1);
        y.recharge(500);
        for (int call = 4; call < 512; call++) {
            y.ring(0);
        }
        Check.due("18: the 512th call", y.unheard(), 508 - 83);
    }
}
