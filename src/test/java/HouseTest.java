/** Promises 1 to 10: what changes the house. */
public final class HouseTest {
    public static void main(String[] args) {
        newObject();
        addRoom();
        addRoomRefused();
        addServant();
        ring();
        ringWithoutCharge();
        ringFromServedRoom();
        cross();
        cutAndMend();
        recharge();
        putUp();
        passSendsAndServes();
        passRingsAgain();
        passGivesUp();
        passGivesUpBeforeServantComes();
        passGoesInVain();
        passSendsWhoIsFreedInTheSameMinute();
        passSendsInTheLineOfFalling();
        passSendsForDropOfTheSameMinute();
        passRingsByNumbers();
        passServesWhoDidNotRing();
        passServesOneRoomOnce();
        passRefused();
        Check.finish("HouseTest");
    }

    private static void newObject() {
        HouseBells x = new HouseBells();
        Check.due("1: a new house", Check.look(x), "0 0 0 200 0 0 0 0 -1 0 0 0 -1 0.0\n");
        HouseBells other = new HouseBells();
        other.addRoom(0, 1, 1);
        other.addServant(1);
        other.ring(0);
        Check.due("1: a house beside another", Check.look(x), "0 0 0 200 0 0 0 0 -1 0 0 0 -1 0.0\n");
        Check.due("1: pass in an empty house", x.pass(60), 0);
        Check.due("1: minute of an empty house", x.minute(), 60);
    }

    private static void addRoom() {
        HouseBells x = new HouseBells();
        Check.due("2: addRoom least", x.addRoom(0, 1, 1), 0);
        Check.due("2: addRoom most", x.addRoom(5, 9, 9), 1);
        x.cross(0, 1);
        Check.due("2: addRoom behind a crossing", x.addRoom(3, 2, 4), 2);
        Check.due("2: its drop", x.dropOf(2), 2);
        Check.due("2: its wire is whole", x.isCut(2), false);
        Check.due("2: it does not wait", x.waitedFor(2), -1);
        Check.due("2: its drop stands", x.hasFallen(2), false);
        for (int room = 3; room < 12; room++) {
            Check.due("2: addRoom", x.addRoom(room % 6, room % 9 + 1, 9 - room % 9), room);
        }
        Check.due("2: rooms", x.rooms(), 12);
        Check.state("2: addRoom of a thirteenth", x, () -> x.addRoom(0, 1, 1));
        Check.illegal("2: addRoom of a thirteenth on floor 6", x, () -> x.addRoom(6, 1, 1));
    }

    private static void addRoomRefused() {
        HouseBells x = new HouseBells();
        int[][] wrong = {{-1, 1, 1}, {6, 1, 1}, {0, 0, 1}, {0, 10, 1}, {0, 1, 0}, {0, 1, 10},
            {Integer.MAX_VALUE, 1, 1}, {Integer.MIN_VALUE, 1, 1}, {0, Integer.MIN_VALUE, 1}, {0, 1, Integer.MAX_VALUE}};
        for (int[] w : wrong) {
            Check.illegal("2: addRoom(" + w[0] + ", " + w[1] + ", " + w[2] + ")", x, () -> x.addRoom(w[0], w[1], w[2]));
        }
    }

    private static void addServant() {
        HouseBells x = new HouseBells();
        for (int wrong : new int[] {0, 5, -1, Integer.MIN_VALUE, Integer.MAX_VALUE}) {
            Check.illegal("3: addServant(" + wrong + ")", x, () -> x.addServant(wrong));
        }
        int[] paces = {1, 4, 2, 3, 1, 4};
        for (int servant = 0; servant < 6; servant++) {
            Check.due("3: addServant", x.addServant(paces[servant]), servant);
            Check.due("3: on floor", x.floorOf(servant), 0);
            Check.due("3: goes to", x.goesTo(servant), -1);
            Check.due("3: serves", x.serves(servant), -1);
            Check.due("3: minutes left", x.minutesLeft(servant), 0);
        }
        Check.due("3: servants", x.servants(), 6);
        Check.state("3: addServant of a seventh", x, () -> x.addServant(1));
        Check.illegal("3: addServant of a seventh without pace", x, () -> x.addServant(0));
    }

    private static void ring() {
        HouseBells x = Check.house(Check.floors(3, 0), 2);
        Check.due("4: ring", x.ring(0), true);
        Check.due("4: takes the floor and 1", x.charge(), 196);
        Check.due("4: waits", x.waitedFor(0), 0);
        Check.due("4: the drop falls", x.hasFallen(0), true);
        Check.due("4: nobody is sent before a minute goes", x.goesTo(0), -1);
        Check.due("4: ring of another", x.ring(1), true);
        Check.due("4: takes 1 from floor 0", x.charge(), 195);
        Check.due("4: falls behind", x.placeInLine(1), 1);
        x.pass(1);
        x.pass(1);
        Check.due("4: ring of one who waits", x.ring(0), true);
        Check.due("4: goes on waiting", x.waitedFor(0), 2);
        Check.due("4: takes again", x.charge(), 191);
        Check.due("4: none unheard", x.unheard(), 0);
        Check.outside("4: ring(2)", x, () -> x.ring(2));
        Check.outside("4: ring(-1)", x, () -> x.ring(-1));
        Check.outside("4: ring(most)", x, () -> x.ring(Integer.MAX_VALUE));
        Check.outside("4: ring(least)", x, () -> x.ring(Integer.MIN_VALUE));
        HouseBells again = Check.house(Check.floors(1, 1));
        again.ring(0);
        again.ring(1);
        Check.due("4: ring with its drop fallen is heard", again.ring(0), true);
        Check.due("4: and takes", again.charge(), 194);
        Check.due("4: the drop keeps its place", again.placeInLine(0), 0);
        Check.due("4: no drop more", again.fallen(), 2);
    }

    private static void ringWithoutCharge() {
        HouseBells x = Check.house(Check.floors(5, 5, 0));
        x.recharge(5);
        Check.due("4: ring with too little charge", x.ring(0), false);
        Check.due("4: takes nothing", x.charge(), 5);
        Check.due("4: is not heard", x.unheard(), 1);
        Check.due("4: waits unheard", x.waitedFor(0), 0);
        Check.due("4: no drop falls", x.fallen(), 0);
        x.recharge(6);
        Check.due("4: ring with just enough", x.ring(1), true);
        Check.due("4: takes all", x.charge(), 0);
        x.recharge(100);
        x.cut(2);
        Check.due("4: ring by a cut wire", x.ring(2), false);
        Check.due("4: a cut wire takes nothing", x.charge(), 100);
        Check.due("4: waits behind a cut wire", x.waitedFor(2), 0);
        Check.due("4: unheard in all", x.unheard(), 2);
        Check.due("4: its drop stands", x.hasFallen(2), false);
        x.pass(4);
        x.ring(2);
        Check.due("4: waits on unheard", x.waitedFor(2), 4);
    }

    private static void ringFromServedRoom() {
        HouseBells x = Check.house(Check.floors(0), 1, 1);
        x.ring(0);
        x.pass(2);
        Check.due("4: is served", x.serves(0), 0);
        Check.due("4: does not wait when served", x.waitedFor(0), -1);
        Check.due("4: ring of one who is served", x.ring(0), true);
        Check.due("4: who is served waits again", x.waitedFor(0), 0);
        Check.due("4: and gets a second servant", x.pass(2), 1);
        Check.due("4: who serves it", x.serves(1), 0);
    }

    private static void cross() {
        HouseBells x = Check.house(Check.floors(0, 1, 2));
        x.cut(1);
        Check.due("5: cross", x.cross(0, 1), 1);
        Check.due("5: the other leads to the first", x.dropOf(1), 0);
        Check.due("5: whole stays", x.isCut(0), false);
        Check.due("5: cut stays", x.isCut(1), true);
        Check.due("5: cross further", x.cross(2, 0), 1);
        Check.due("5: leads to that of before", x.dropOf(0), 2);
        Check.due("5: the third is as it was", x.dropOf(1), 0);
        Check.due("5: ring by a crossed wire", x.ring(2), true);
        Check.due("5: takes by the room's floor", x.charge(), 197);
        Check.due("5: another drop falls", x.nextDrop(), 1);
        Check.due("5: the room waits that rang", x.waitedFor(2), 0);
        Check.due("5: cross back", x.cross(0, 2), 1);
        Check.due("5: cross back to the end", x.cross(1, 0), 1);
        Check.due("5: none is crossed", x.crossed(), 0);
        Check.illegal("5: cross(1, 1)", x, () -> x.cross(1, 1));
        Check.outside("5: cross(3, 0)", x, () -> x.cross(3, 0));
        Check.outside("5: cross(0, 3)", x, () -> x.cross(0, 3));
        Check.outside("5: cross(-1, 0)", x, () -> x.cross(-1, 0));
        Check.outside("5: cross(0, -1)", x, () -> x.cross(0, -1));
        Check.outside("5: cross(3, 3)", x, () -> x.cross(3, 3));
        Check.outside("5: cross(-1, -1)", x, () -> x.cross(-1, -1));
    }

    private static void cutAndMend() {
        HouseBells x = Check.house(Check.floors(0, 1, 2));
        Check.state("7: mend of a whole wire", x, () -> x.mend(0));
        Check.due("6: cut", x.cut(2), 1);
        Check.due("6: cut of another", x.cut(0), 2);
        Check.due("6: is cut", x.isCut(2), true);
        Check.due("6: the rest is whole", x.isCut(1), false);
        Check.state("6: cut of a cut wire", x, () -> x.cut(2));
        Check.due("7: mend", x.mend(2), 1);
        Check.due("7: is whole", x.isCut(2), false);
        Check.due("7: the other is cut yet", x.isCut(0), true);
        Check.state("7: mend again", x, () -> x.mend(2));
        Check.due("7: ring by a mended wire", x.ring(2), true);
        Check.due("7: mend of the last", x.mend(0), 0);
        for (int wrong : new int[] {-1, 3, Integer.MAX_VALUE, Integer.MIN_VALUE}) {
            Check.outside("6: cut(" + wrong + ")", x, () -> x.cut(wrong));
            Check.outside("7: mend(" + wrong + ")", x, () -> x.mend(wrong));
        }
    }

    private static void recharge() {
        HouseBells x = Check.house(Check.floors(4));
        Check.due("8: recharge to the most", x.recharge(500), 200);
        Check.due("8: charge", x.charge(), 500);
        x.ring(0);
        Check.due("8: recharge to none", x.recharge(0), 495);
        Check.due("8: recharge to the same", x.recharge(0), 0);
        Check.illegal("8: recharge(-1)", x, () -> x.recharge(-1));
        Check.illegal("8: recharge(501)", x, () -> x.recharge(501));
        Check.illegal("8: recharge(least)", x, () -> x.recharge(Integer.MIN_VALUE));
        Check.illegal("8: recharge(most)", x, () -> x.recharge(Integer.MAX_VALUE));
    }

    private static void putUp() {
        HouseBells x = Check.house(Check.floors(0, 0, 0, 0), 1);
        x.ring(2);
        x.ring(0);
        x.ring(3);
        Check.due("9: putUp in the middle", x.putUp(0), 2);
        Check.due("9: it stands", x.hasFallen(0), false);
        Check.due("9: the first is first yet", x.nextDrop(), 2);
        Check.due("9: the last moves up", x.placeInLine(3), 1);
        Check.state("9: putUp of one that stands", x, () -> x.putUp(0));
        Check.state("9: putUp of one that never fell", x, () -> x.putUp(1));
        Check.due("9: the room waits yet", x.waitedFor(0), 0);
        Check.due("9: putUp of the first", x.putUp(2), 1);
        Check.due("9: the next is first", x.nextDrop(), 3);
        Check.due("9: putUp of the last", x.putUp(3), 0);
        x.pass(3);
        Check.due("9: nobody is sent", x.goesTo(0), -1);
        Check.due("9: nobody was served", x.served(), 0);
        x.ring(0);
        Check.due("9: it falls again", x.nextDrop(), 0);
        for (int wrong : new int[] {-1, 4, Integer.MAX_VALUE, Integer.MIN_VALUE}) {
            Check.outside("9: putUp(" + wrong + ")", x, () -> x.putUp(wrong));
        }
    }

    private static void passSendsAndServes() {
        HouseBells x = Check.house(Check.floors(3), 2);
        x.ring(0);
        Check.due("10: pass", x.pass(1), 0);
        Check.due("10: the servant goes", x.goesTo(0), 0);
        Check.due("10: for 2 minutes", x.minutesLeft(0), 2);
        Check.due("10: from floor 0", x.floorOf(0), 0);
        Check.due("10: the drop stands", x.hasFallen(0), false);
        Check.due("10: pass on", x.pass(1), 0);
        Check.due("10: a minute less", x.minutesLeft(0), 1);
        Check.due("10: still from floor 0", x.floorOf(0), 0);
        Check.due("10: pass until served", x.pass(1), 1);
        Check.due("10: on its floor", x.floorOf(0), 3);
        Check.due("10: serves", x.serves(0), 0);
        Check.due("10: goes no more", x.goesTo(0), -1);
        Check.due("10: for its need", x.minutesLeft(0), 2);
        Check.due("10: waits no more", x.waitedFor(0), -1);
        x.pass(1);
        Check.due("10: serves yet", x.serves(0), 0);
        Check.due("10: a minute less of it", x.minutesLeft(0), 1);
        x.pass(1);
        Check.due("10: idle", x.serves(0), -1);
        Check.due("10: none left", x.minutesLeft(0), 0);
        Check.due("10: stays on the floor", x.floorOf(0), 3);
        Check.due("10: minute", x.minute(), 5);
        HouseBells y = Check.house(Check.floors(3), 2);
        y.ring(0);
        Check.due("10: pass of several minutes", y.pass(3), 1);
        Check.due("10: only those in them count", y.pass(60), 0);
        Check.due("10: minute after 63", y.minute(), 63);
    }

    private static void passRingsAgain() {
        HouseBells x = new HouseBells();
        x.addRoom(1, 4, 1);
        x.ring(0);
        x.pass(3);
        Check.due("10: no ring before its patience ends", x.charge(), 198);
        x.putUp(0);
        x.pass(1);
        Check.due("10: rings at its patience", x.charge(), 196);
        Check.due("10: the drop falls again", x.hasFallen(0), true);
        x.pass(4);
        Check.due("10: rings at twice its patience", x.charge(), 194);
        x.recharge(1);
        x.pass(4);
        Check.due("10: rings unheard", x.unheard(), 1);
        Check.due("10: unheard takes nothing", x.charge(), 1);
        x.recharge(100);
        x.cut(0);
        x.pass(4);
        Check.due("10: rings unheard by a cut wire", x.unheard(), 2);
        Check.due("10: a cut wire takes nothing", x.charge(), 100);
        Check.due("10: has waited", x.waitedFor(0), 16);
        HouseBells y = new HouseBells();
        y.addRoom(0, 1, 1);
        y.ring(0);
        y.pass(30);
        Check.due("10: rings each minute until 29", y.charge(), 170);
    }

    private static void passGivesUp() {
        HouseBells x = new HouseBells();
        x.addRoom(0, 5, 1);
        x.ring(0);
        x.pass(29);
        Check.due("10: waits for 29", x.waitedFor(0), 29);
        Check.due("10: has not given up", x.gaveUp(), 0);
        Check.due("10: rang at 5, 10, 15, 20, 25", x.charge(), 194);
        x.pass(1);
        Check.due("10: waits no more at 30", x.waitedFor(0), -1);
        Check.due("10: gave up", x.gaveUp(), 1);
        Check.due("10: does not ring at 30", x.charge(), 194);
        Check.due("10: its drop stays fallen", x.hasFallen(0), true);
        x.pass(60);
        Check.due("10: rings no more", x.charge(), 194);
        Check.due("10: gives up once", x.gaveUp(), 1);
        x.ring(0);
        Check.due("10: waits anew from 0", x.waitedFor(0), 0);
    }

    private static void passGivesUpBeforeServantComes() {
        HouseBells x = new HouseBells();
        x.addRoom(5, 9, 1);
        x.ring(0);
        x.pass(24);
        x.addServant(1);
        x.pass(1);
        Check.due("10: goes for 5 minutes", x.minutesLeft(0), 5);
        Check.due("10: comes too late", x.pass(5), 0);
        Check.due("10: the room gave up first", x.gaveUp(), 1);
        Check.due("10: and he went in vain", x.inVain(), 1);
        Check.due("10: at the minute 30", x.minute(), 30);
        HouseBells y = new HouseBells();
        y.addRoom(5, 9, 1);
        y.ring(0);
        y.pass(23);
        y.addServant(1);
        Check.due("10: comes in the last minute", y.pass(6), 1);
        Check.due("10: nobody gave up", y.gaveUp(), 0);
    }

    private static void passGoesInVain() {
        HouseBells x = Check.house(Check.floors(0, 4), 4);
        x.cross(0, 1);
        x.ring(0);
        x.pass(1);
        Check.due("10: goes to the room of the drop's number", x.goesTo(0), 1);
        Check.due("10: serves nobody", x.pass(1), 0);
        Check.due("10: in vain", x.inVain(), 1);
        Check.due("10: is on that floor", x.floorOf(0), 4);
        Check.due("10: is idle", x.goesTo(0), -1);
        Check.due("10: and serves none", x.serves(0), -1);
        Check.due("10: who rang waits yet", x.waitedFor(0), 2);
        Check.due("10: not served", x.served(), 0);
    }

    private static void passSendsWhoIsFreedInTheSameMinute() {
        HouseBells x = Check.house(Check.floors(0, 0, 0), 1);
        x.cross(0, 1);
        x.ring(0);
        x.ring(2);
        x.pass(1);
        Check.due("10: to the first", x.goesTo(0), 1);
        Check.due("10: the second falls yet", x.fallen(), 1);
        x.pass(1);
        Check.due("10: in vain and sent on at once", x.goesTo(0), 2);
        x.pass(1);
        Check.due("10: serves the second", x.serves(0), 2);
        x.ring(1);
        x.pass(1);
        Check.due("10: serves on while a drop has fallen", x.serves(0), 2);
        Check.due("10: that drop", x.nextDrop(), 0);
        x.pass(1);
        Check.due("10: ends and is sent on at once", x.goesTo(0), 0);
        Check.due("10: for a minute", x.minutesLeft(0), 1);
        Check.due("10: serves who rang first", x.pass(1), 1);
    }

    private static void passSendsInTheLineOfFalling() {
        HouseBells x = Check.house(Check.floors(1, 2, 5, 4), 1, 4);
        x.ring(3);
        x.ring(1);
        x.ring(2);
        x.pass(1);
        Check.due("10: the fast one goes to the first drop", x.goesTo(1), 3);
        Check.due("10: the slow one to the second", x.goesTo(0), 1);
        Check.due("10: the third is left", x.nextDrop(), 2);
        Check.due("10: the way of the fast one", x.minutesLeft(1), 1);
        Check.due("10: the way of the slow one", x.minutesLeft(0), 2);
        HouseBells y = Check.house(Check.floors(2, 2), 2, 1, 3, 2);
        y.ring(1);
        y.ring(0);
        y.pass(1);
        Check.due("10: of the same ways the smallest number", y.goesTo(0), 1);
        Check.due("10: then the next of them", y.goesTo(2), 0);
        Check.due("10: not the slow one", y.goesTo(1), -1);
        HouseBells z = Check.house(Check.floors(0, 0, 0), 1, 2, 3);
        z.ring(2);
        z.ring(0);
        z.ring(1);
        z.pass(1);
        Check.due("10: all are sent in one minute", z.fallen(), 0);
        Check.due("10: the first to the first", z.goesTo(0), 2);
        Check.due("10: the last to the last", z.goesTo(2), 1);
    }

    private static void passSendsForDropOfTheSameMinute() {
        HouseBells x = new HouseBells();
        x.addRoom(0, 3, 1);
        x.recharge(0);
        x.ring(0);
        x.addServant(1);
        x.pass(2);
        x.recharge(10);
        x.pass(1);
        Check.due("10: rings and is sent for in one minute", x.goesTo(0), 0);
        Check.due("10: the drop stands then", x.fallen(), 0);
    }

    private static void passRingsByNumbers() {
        HouseBells x = new HouseBells();
        x.addRoom(1, 2, 1);
        x.addRoom(0, 2, 1);
        x.recharge(0);
        x.ring(1);
        x.ring(0);
        x.recharge(3);
        x.pass(2);
        Check.due("10: both ring", x.charge(), 0);
        Check.due("10: the smaller number falls first", x.placeInLine(0), 0);
        Check.due("10: the greater falls behind", x.placeInLine(1), 1);
        x.recharge(2);
        x.pass(2);
        Check.due("10: the smaller number takes the charge", x.charge(), 0);
        Check.due("10: the greater is unheard", x.unheard(), 3);
    }

    private static void passServesWhoDidNotRing() {
        HouseBells x = Check.house(Check.floors(0, 0), 1);
        x.cross(0, 1);
        x.cut(1);
        x.ring(1);
        x.ring(0);
        x.pass(1);
        Check.due("10: goes to who waits unheard", x.goesTo(0), 1);
        Check.due("10: serves him", x.pass(1), 1);
        Check.due("10: who was heard waits yet", x.waitedFor(0), 2);
        Check.due("10: who was not is served", x.serves(0), 1);
    }

    private static void passServesOneRoomOnce() {
        HouseBells x = Check.house(Check.floors(2), 2, 2);
        x.ring(0);
        x.pass(1);
        x.ring(0);
        x.pass(1);
        Check.due("10: the first is there", x.serves(0), 0);
        Check.due("10: a second goes to the same room", x.goesTo(1), 0);
        Check.due("10: but does not serve it", x.pass(1), 0);
        Check.due("10: he went in vain", x.inVain(), 1);
        Check.due("10: served once", x.served(), 1);
    }

    private static void passRefused() {
        HouseBells x = Check.house(Check.floors(0), 1);
        x.ring(0);
        for (int wrong : new int[] {0, -1, 61, Integer.MAX_VALUE, Integer.MIN_VALUE}) {
            Check.illegal("10: pass(" + wrong + ")", x, () -> x.pass(wrong));
        }
        Check.due("10: pass(60)", x.pass(60), 1);
        Check.due("10: minute", x.minute(), 60);
    }
}
