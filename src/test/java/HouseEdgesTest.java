/**
 * Promises 1 to 10 and the terms at their edges. The words above each test are the document's; what is refused is
 * looked at further in RefusedTest.
 */
public final class HouseEdgesTest {
    public static void main(String[] args) {
        newHouse();
        twelveRooms();
        newRoom();
        floors();
        patienceAndNeed();
        sixServants();
        newServant();
        paces();
        ringTakes();
        ringWithJustEnough();
        ringWithAllThereCanBe();
        ringByCutWire();
        ringOfFallenDrop();
        ringOfTwelveDrops();
        ringOfWhoWaits();
        ringOfWhoIsServed();
        crossOfTwo();
        crossOfTwelve();
        crossWithFallenDrops();
        cutAndMendOfTwelve();
        cutAndMendWithFallenDrops();
        charges();
        putUpOfTwelve();
        putUpOfTheOnlyOne();
        passOfLeastAndMost();
        passCountsServices();
        passInHouseWithoutSomething();
        Check.finish("HouseEdgesTest");
    }

    /** "Creates a house without rooms and servants, at the minute 0." */
    private static void newHouse() {
        HouseBells x = new HouseBells();
        Check.due("1: minute", x.minute(), 0);
        Check.due("1: rooms", x.rooms(), 0);
        Check.due("1: servants", x.servants(), 0);
        Check.due("1: charge", x.charge(), 200);
        Check.due("1: the rest", Check.look(x), "0 0 0 200 0 0 0 0 -1 0 0 0 -1 0.0\n");
        Check.due("1: servedIn(1)", x.servedIn(1), 0);
        Check.due("1: servedIn(60)", x.servedIn(60), 0);
    }

    /** "At most 12, numbered from 0", "if there are 12". */
    private static void twelveRooms() {
        HouseBells x = new HouseBells();
        for (int number = 0; number < 12; number++) {
            Check.outside("2: no room " + number + " yet", x, () -> x.dropOf(x.rooms()));
            Check.due("2: addRoom " + number, x.addRoom(0, 9, 1), number);
            Check.due("2: rooms", x.rooms(), number + 1);
            Check.due("2: the room is there", x.dropOf(number), number);
        }
        Check.state("2: a thirteenth", x, () -> x.addRoom(0, 9, 1));
        Check.due("2: rooms when one was refused", x.rooms(), 12);
        Check.outside("2: no room 12", x, () -> x.dropOf(12));
        Check.due("2: the last room rings", x.ring(11), true);
        Check.due("2: the last drop falls", x.nextDrop(), 11);
    }

    /** "or does not (at first)", "each stands (at first)", "at first to that of its own number", "whole (at first)". */
    private static void newRoom() {
        HouseBells x = new HouseBells();
        x.addRoom(0, 9, 1);
        x.addRoom(0, 9, 1);
        x.cross(0, 1);
        x.cut(0);
        x.cut(1);
        x.ring(0);
        x.mend(1);
        x.ring(1);
        x.pass(1);
        for (int number = 2; number < 12; number++) {
            x.addRoom(5, 1, 9);
            Check.due("2: a new room does not wait", x.waitedFor(number), -1);
            Check.due("2: its drop stands", x.hasFallen(number), false);
            Check.due("2: its wire leads to its drop", x.dropOf(number), number);
            Check.due("2: its drop is led to by its wire", x.roomOf(number), number);
            Check.due("2: its wire is whole", x.isCut(number), false);
        }
        Check.due("2: the others are as they were", x.dropOf(0), 1);
        Check.due("2: who waited waits", x.waitedFor(0), 1);
        Check.due("2: the drop that had fallen has", x.nextDrop(), 0);
    }

    /** "each is on a floor, 0 to 5", "if floor is not 0 to 5". */
    private static void floors() {
        for (int floor = 0; floor <= 5; floor++) {
            HouseBells x = new HouseBells();
            Check.due("2: floor " + floor, x.addRoom(floor, 1, 1), 0);
            x.addServant(1);
            Check.due("2: the way to floor " + floor, x.wayTo(0, 0), floor == 0 ? 1 : floor);
        }
        HouseBells x = new HouseBells();
        Check.illegal("2: floor -1", x, () -> x.addRoom(-1, 1, 1));
        Check.illegal("2: floor 6", x, () -> x.addRoom(6, 1, 1));
        Check.due("2: none was added", x.rooms(), 0);
    }

    /** "and has a patience, 1 to 9, and a need, 1 to 9", "or patience or need is not 1 to 9". */
    private static void patienceAndNeed() {
        for (int number = 1; number <= 9; number++) {
            HouseBells x = new HouseBells();
            Check.due("2: patience " + number, x.addRoom(0, number, 9), 0);
            Check.due("2: need " + number, x.addRoom(0, 9, number), 1);
        }
        HouseBells x = new HouseBells();
        Check.illegal("2: patience 0", x, () -> x.addRoom(0, 0, 1));
        Check.illegal("2: patience 10", x, () -> x.addRoom(0, 10, 1));
        Check.illegal("2: need 0", x, () -> x.addRoom(0, 1, 0));
        Check.illegal("2: need 10", x, () -> x.addRoom(0, 1, 10));
        Check.due("2: none was added", x.rooms(), 0);
    }

    /** "At most 6, numbered from 0", "if there are 6". */
    private static void sixServants() {
        HouseBells x = new HouseBells();
        for (int number = 0; number < 6; number++) {
            Check.outside("3: no servant " + number + " yet", x, () -> x.floorOf(x.servants()));
            Check.due("3: addServant " + number, x.addServant(1), number);
            Check.due("3: servants", x.servants(), number + 1);
            Check.due("3: the servant is there", x.floorOf(number), 0);
        }
        Check.state("3: a seventh", x, () -> x.addServant(1));
        Check.due("3: servants when one was refused", x.servants(), 6);
        Check.outside("3: no servant 6", x, () -> x.floorOf(6));
    }

    /** "is on a floor (0, at first)", "A servant is idle (at first)". */
    private static void newServant() {
        HouseBells x = Check.house(Check.floors(5, 5), 4);
        x.ring(0);
        x.pass(3);
        Check.due("3: the first one is up and serves", x.floorOf(0), 5);
        x.addServant(1);
        Check.due("3: a new one is on floor 0", x.floorOf(1), 0);
        Check.due("3: goes to none", x.goesTo(1), -1);
        Check.due("3: serves none", x.serves(1), -1);
        Check.due("3: has nothing to do", x.minutesLeft(1), 0);
        Check.due("3: and is the idle one", x.nearestIdle(1), 1);
    }

    /** "each has a pace, 1 to 4", "if pace is not 1 to 4". */
    private static void paces() {
        HouseBells x = Check.house(Check.floors(5));
        int[] minutes = {5, 3, 2, 2};
        for (int pace = 1; pace <= 4; pace++) {
            Check.due("3: pace " + pace, x.addServant(pace), pace - 1);
            Check.due("3: the way at pace " + pace, x.wayTo(pace - 1, 0), minutes[pace - 1]);
        }
        Check.illegal("3: pace 0", x, () -> x.addServant(0));
        Check.illegal("3: pace 5", x, () -> x.addServant(5));
        Check.due("3: none was added", x.servants(), 4);
    }

    /** "A ring takes 1 more than the floor of its room." */
    private static void ringTakes() {
        int[] left = {199, 197, 194, 190, 185, 179};
        HouseBells x = Check.house(Check.floors(0, 1, 2, 3, 4, 5));
        for (int floor = 0; floor <= 5; floor++) {
            Check.due("4: ring from floor " + floor, x.ring(floor), true);
            Check.due("4: charge behind floor " + floor, x.charge(), left[floor]);
        }
        HouseBells crossed = Check.house(Check.floors(0, 5));
        crossed.cross(0, 1);
        crossed.ring(0);
        Check.due("4: takes by the floor of the room, not of the drop", crossed.charge(), 199);
    }

    /** "the charge is as much or more, the ring is heard"; "Otherwise nothing is taken, and the ring is not heard." */
    private static void ringWithJustEnough() {
        for (int floor = 0; floor <= 5; floor++) {
            HouseBells x = Check.house(Check.floors(floor));
            x.recharge(floor);
            Check.due("4: too little for floor " + floor, x.ring(0), false);
            Check.due("4: nothing is taken", x.charge(), floor);
            Check.due("4: not heard", x.unheard(), 1);
            Check.due("4: its drop stands", x.hasFallen(0), false);
            Check.due("4: it waits, heard or not", x.waitedFor(0), 0);
            x.recharge(floor + 1);
            Check.due("4: just enough for floor " + floor, x.ring(0), true);
            Check.due("4: all is taken", x.charge(), 0);
            Check.due("4: heard", x.unheard(), 1);
            Check.due("4: its drop falls", x.hasFallen(0), true);
            Check.due("4: none is left", x.ring(0), false);
            Check.due("4: the charge is not below 0", x.charge(), 0);
        }
    }

    /** "The battery has a charge, 0 to 500": so many rings from floor 0 are heard. */
    private static void ringWithAllThereCanBe() {
        HouseBells x = Check.house(Check.floors(0));
        x.recharge(500);
        int heard = 0;
        for (int ring = 0; ring < 500; ring++) {
            heard += x.ring(0) ? 1 : 0;
        }
        Check.due("4: heard with 500", heard, 500);
        Check.due("4: charge behind 500", x.charge(), 0);
        Check.due("4: the next one", x.ring(0), false);
        Check.due("4: unheard", x.unheard(), 1);
    }

    /** "If the wire is whole": a cut one takes nothing, as much as the charge may be. */
    private static void ringByCutWire() {
        HouseBells x = Check.house(Check.floors(0, 5));
        x.recharge(500);
        x.cut(0);
        Check.due("4: by a cut wire", x.ring(0), false);
        Check.due("4: nothing is taken", x.charge(), 500);
        Check.due("4: not heard", x.unheard(), 1);
        Check.due("4: no drop falls", x.fallen(), 0);
        Check.due("4: it waits, heard or not", x.waitedFor(0), 0);
        x.cross(0, 1);
        Check.due("4: by the cut wire, crossed", x.ring(0), false);
        Check.due("4: by the whole wire, crossed", x.ring(1), true);
        Check.due("4: to the drop of the cut one", x.nextDrop(), 0);
    }

    /** "the drop to which the wire leads falls, if it stands": else it stays where it is in the line. */
    private static void ringOfFallenDrop() {
        HouseBells x = Check.house(Check.floors(0, 0));
        x.ring(0);
        Check.due("4: again, as the only one", x.ring(0), true);
        Check.due("4: it has fallen once", x.fallen(), 1);
        Check.due("4: but both are taken", x.charge(), 198);
        x.ring(1);
        Check.due("4: again, as the first of two", x.ring(0), true);
        Check.due("4: it is first yet", x.placeInLine(0), 0);
        Check.due("4: no more have fallen", x.fallen(), 2);
        Check.due("4: again, as the last", x.ring(1), true);
        Check.due("4: it is last yet", x.placeInLine(1), 1);
        x.putUp(0);
        x.ring(0);
        Check.due("4: once it stood it falls behind", x.placeInLine(0), 1);
    }

    /** As many drops as there can be have fallen. */
    private static void ringOfTwelveDrops() {
        HouseBells x = Check.house(Check.twelveFloors());
        for (int room = 11; room >= 0; room--) {
            Check.due("4: ring of " + room, x.ring(room), true);
            Check.due("4: fallen", x.fallen(), 12 - room);
            Check.due("4: place", x.placeInLine(room), 11 - room);
        }
        Check.due("4: ring when all have fallen", x.ring(0), true);
        Check.due("4: no more can fall", x.fallen(), 12);
        Check.due("4: the first is first yet", x.nextDrop(), 11);
        Check.due("4: the last is last yet", x.placeInLine(0), 11);
    }

    /** "also from one that waits"; only "If it does not wait, it waits then, for 0 minutes so far". */
    private static void ringOfWhoWaits() {
        HouseBells x = Check.house(Check.floors(0, 0));
        Check.due("4: before it rings", x.waitedFor(0), -1);
        x.ring(0);
        Check.due("4: when it rings", x.waitedFor(0), 0);
        Check.due("4: nobody else waits", x.waitedFor(1), -1);
        x.ring(0);
        Check.due("4: when it rings at 0", x.waitedFor(0), 0);
        x.pass(1);
        x.ring(0);
        Check.due("4: when it rings at 1", x.waitedFor(0), 1);
        x.pass(28);
        x.ring(0);
        Check.due("4: when it rings at 29", x.waitedFor(0), 29);
        x.pass(1);
        Check.due("4: a ring at 29 does not keep it waiting", x.waitedFor(0), -1);
        x.ring(0);
        Check.due("4: when it had given up", x.waitedFor(0), 0);
        x.pass(29);
        Check.due("4: then waits as long as at first", x.waitedFor(0), 29);
    }

    /** "or is served": it waits then, from 0, and gets another servant, or the same again. */
    private static void ringOfWhoIsServed() {
        HouseBells x = Check.house(Check.floors(0), 1);
        x.ring(0);
        x.pass(2);
        Check.due("4: is served", x.serves(0), 0);
        x.cut(0);
        Check.due("4: rings unheard when served", x.ring(0), false);
        Check.due("4: and waits then", x.waitedFor(0), 0);
        Check.due("4: and is served yet", x.serves(0), 0);
        x.pass(1);
        Check.due("4: it waits on", x.waitedFor(0), 1);
        x.mend(0);
        Check.due("4: rings heard when served", x.ring(0), true);
        Check.due("4: and waits on", x.waitedFor(0), 1);
        Check.due("4: the servant serves again", x.pass(2), 1);
    }

    /** "each leads to the drop of the other one of before; whole or cut they stay", with just two rooms. */
    private static void crossOfTwo() {
        HouseBells x = Check.house(Check.floors(0, 0));
        x.cut(1);
        Check.due("5: cross", x.cross(0, 1), 1);
        Check.due("5: the first", x.dropOf(0), 1);
        Check.due("5: the other", x.dropOf(1), 0);
        Check.due("5: the first is whole", x.isCut(0), false);
        Check.due("5: the other is cut", x.isCut(1), true);
        Check.due("5: crossed twice", x.cross(0, 1), 0);
        Check.due("5: crossed the other way round", x.cross(1, 0), 0);
        Check.illegal("5: with itself", x, () -> x.cross(1, 1));
        Check.outside("5: without the other", x, () -> x.cross(0, 2));
    }

    /** "no two to the same": with as many wires as there can be, the first and the last among them. */
    private static void crossOfTwelve() {
        HouseBells x = Check.house(Check.twelveFloors());
        Check.due("5: the first with the last", x.cross(0, 11), 11);
        Check.due("5: the last with the first", x.cross(11, 0), 11);
        for (int room = 0; room < 11; room++) {
            Check.due("5: cross", x.cross(room, room + 1), room + 1);
        }
        for (int room = 0; room < 12; room++) {
            Check.due("5: each leads to the next", x.dropOf(room), (room + 1) % 12);
            Check.due("5: and no other to it", x.roomOf(room), (room + 11) % 12);
        }
    }

    /** Crossing wires moves no drop and nobody who waits. */
    private static void crossWithFallenDrops() {
        HouseBells x = Check.house(Check.floors(0, 0));
        x.ring(0);
        x.cross(0, 1);
        Check.due("5: the fallen drop has fallen", x.hasFallen(0), true);
        Check.due("5: the other stands", x.hasFallen(1), false);
        Check.due("5: who waited waits", x.waitedFor(0), 0);
        Check.due("5: who did not does not", x.waitedFor(1), -1);
    }

    /** "Returns how many wires are cut then", from none to all; "if it is cut", "if it is whole". */
    private static void cutAndMendOfTwelve() {
        HouseBells x = Check.house(Check.twelveFloors());
        for (int room = 0; room < 12; room++) {
            Check.due("6: cut", x.cut(room), room + 1);
            Check.due("6: it is cut", x.isCut(room), true);
        }
        Check.state("6: cut of the first, which is cut", x, () -> x.cut(0));
        Check.state("6: cut of the last, which is cut", x, () -> x.cut(11));
        for (int room = 0; room < 12; room++) {
            Check.due("7: mend", x.mend(room), 11 - room);
            Check.due("7: it is whole", x.isCut(room), false);
        }
        Check.state("7: mend of the first, which is whole", x, () -> x.mend(0));
        Check.state("7: mend of the last, which is whole", x, () -> x.mend(11));
        Check.due("6: cut when it was mended", x.cut(11), 1);
    }

    /** Cutting and mending moves no drop and nobody who waits. */
    private static void cutAndMendWithFallenDrops() {
        HouseBells x = Check.house(Check.floors(0, 0));
        x.ring(0);
        x.cut(0);
        Check.due("6: the fallen drop has fallen", x.nextDrop(), 0);
        Check.due("6: who waited waits", x.waitedFor(0), 0);
        Check.due("6: the wire leads where it led", x.dropOf(0), 0);
        x.cut(1);
        x.ring(1);
        x.mend(1);
        Check.due("7: the standing drop stands", x.hasFallen(1), false);
        Check.due("7: who was not heard waits", x.waitedFor(1), 0);
        Check.due("7: nothing is taken", x.charge(), 199);
    }

    /** "0 to 500 (200, at first)", "if charge is not 0 to 500", "Returns the one before." */
    private static void charges() {
        HouseBells x = new HouseBells();
        Check.illegal("8: recharge(-1)", x, () -> x.recharge(-1));
        Check.illegal("8: recharge(501)", x, () -> x.recharge(501));
        Check.due("8: recharge(0)", x.recharge(0), 200);
        Check.due("8: charge 0", x.charge(), 0);
        Check.due("8: recharge(1)", x.recharge(1), 0);
        Check.due("8: recharge(499)", x.recharge(499), 1);
        Check.due("8: recharge(500)", x.recharge(500), 499);
        Check.due("8: charge 500", x.charge(), 500);
        Check.due("8: recharge(500) again", x.recharge(500), 500);
        Check.illegal("8: recharge(501) at 500", x, () -> x.recharge(501));
        Check.due("8: charge when it was refused", x.charge(), 500);
    }

    /** "Returns how many have fallen then", from all to none: the first, the last and one amid them. */
    private static void putUpOfTwelve() {
        HouseBells x = Check.house(Check.twelveFloors());
        Check.ringAll(x);
        Check.due("9: putUp of the last", x.putUp(11), 11);
        Check.due("9: the others stay", x.placeInLine(10), 10);
        Check.due("9: putUp of the first", x.putUp(0), 10);
        Check.due("9: the second is first", x.nextDrop(), 1);
        Check.due("9: putUp amid them", x.putUp(5), 9);
        Check.due("9: ahead of it they stay", x.placeInLine(4), 3);
        Check.due("9: behind it they move up", x.placeInLine(6), 4);
        Check.state("9: putUp of the first again", x, () -> x.putUp(0));
        Check.state("9: putUp of the last again", x, () -> x.putUp(11));
        int left = 9;
        for (int drop : new int[] {1, 2, 3, 4, 6, 7, 8, 9, 10}) {
            left--;
            Check.due("9: putUp of " + drop, x.putUp(drop), left);
        }
        Check.due("9: all stand", x.nextDrop(), -1);
        x.ring(11);
        Check.due("9: one falls again as the first", x.placeInLine(11), 0);
    }

    /** "it stands again, and nobody is sent for it", though an idle servant is there. */
    private static void putUpOfTheOnlyOne() {
        HouseBells x = Check.house(Check.floors(0), 1);
        Check.state("9: putUp before it falls", x, () -> x.putUp(0));
        x.ring(0);
        Check.due("9: putUp", x.putUp(0), 0);
        Check.due("9: it stands", x.hasFallen(0), false);
        Check.due("9: the room waits yet", x.waitedFor(0), 0);
        x.pass(8);
        Check.due("9: nobody was sent", x.minutesLeft(0), 0);
        x.pass(1);
        Check.due("9: until it rings again", x.goesTo(0), 0);
    }

    /** "if minutes is not 1 to 60", "Lets minutes go by". */
    private static void passOfLeastAndMost() {
        HouseBells x = new HouseBells();
        Check.illegal("10: pass(0)", x, () -> x.pass(0));
        Check.illegal("10: pass(61)", x, () -> x.pass(61));
        Check.due("10: no minute went by", x.minute(), 0);
        Check.due("10: pass(1)", x.pass(1), 0);
        Check.due("10: minute 1", x.minute(), 1);
        Check.due("10: pass(60)", x.pass(60), 0);
        Check.due("10: minute 61", x.minute(), 61);
    }

    /** "Returns how often a servant begins to serve a room in them": none, one, and as many as there can be. */
    private static void passCountsServices() {
        HouseBells x = Check.house(Check.twelveFloors(), 1, 1, 1, 1, 1, 1);
        Check.ringAll(x);
        Check.due("10: none in the first minute", x.pass(1), 0);
        Check.due("10: all six in one minute", x.pass(1), 6);
        Check.due("10: those who serve yet are none", x.pass(1), 0);
        Check.due("10: six more", x.pass(2), 6);
        Check.due("10: in all", x.served(), 12);
        Check.due("10: none waits", x.pass(60), 0);
        HouseBells y = Check.house(Check.twelveFloors(), 1);
        Check.ringAll(y);
        // One servant needs 3 minutes for each; when the tenth is done, the last two have given up at 30.
        Check.due("10: one servant in a minute less", y.pass(28), 9);
        Check.due("10: in that minute", y.pass(1), 1);
        Check.due("10: and no more", y.pass(60), 0);
        Check.due("10: the others gave up", y.gaveUp(), 2);
    }

    /** "As long as some drop has fallen, and some servant is idle": there may be none of them. */
    private static void passInHouseWithoutSomething() {
        HouseBells x = Check.house(Check.floors(0, 0));
        x.ring(0);
        Check.due("10: without servants", x.pass(1), 0);
        Check.due("10: the drop has fallen", x.nextDrop(), 0);
        HouseBells y = Check.house(Check.floors(), 1, 1, 1, 1, 1, 1);
        Check.due("10: without rooms", y.pass(60), 0);
        Check.due("10: nobody goes", y.minutesLeft(5), 0);
        HouseBells z = Check.house(Check.floors(0), 1);
        Check.due("10: without a ring", z.pass(60), 0);
        Check.due("10: nobody goes without a ring", z.goesTo(0), -1);
        Check.due("10: minute", z.minute(), 60);
    }
}
