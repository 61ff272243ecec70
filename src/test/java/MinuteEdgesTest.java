/** How a minute goes, at its edges (promise 10 and the terms). The words above each test are the document's. */
public final class MinuteEdgesTest {
    public static void main(String[] args) {
        whoWaitsWaitsAMinuteMore();
        givesUpAtThirty();
        givesUpOnceForEachWait();
        allGiveUpInOneMinute();
        givesUpInsteadOfRinging();
        ringsAtMultiplesOfItsPatience();
        ringsWhileItIsServed();
        ringsByNumbers();
        ringsUntilTheBatteryIsEmpty();
        ringOfTheSameMinuteIsBehindThoseByHand();
        waitsFirstAndIsServedThen();
        givesUpFirstAndIsNotServedThen();
        minutesOfTheWay();
        minutesOfTheNeed();
        arrivesByNumbers();
        arrivesInVain();
        sixArriveInVain();
        staysIdleWithoutADrop();
        isSentOnInTheSameMinute();
        firstDropFirst();
        moreDropsThanServants();
        moreServantsThanDrops();
        allDropsOneServant();
        nearestOfSeveral();
        dropStandsWhenOneIsSent();
        sentToTheRoomOfTheNumber();
        sentToWhoGaveUp();
        minuteIsOneGreater();
        Check.finish("MinuteEdgesTest");
    }

    private static HouseBells oneRoom(int floor, int patience, int need) {
        HouseBells x = new HouseBells();
        x.addRoom(floor, patience, need);
        return x;
    }

    /** Lets the room ring now though nobody hears it: it waits, and its drop stands. */
    private static void waitUnheard(HouseBells x, int room) {
        x.cut(room);
        x.ring(room);
        x.mend(room);
    }

    /** "Each room, by numbers, that waits has waited a minute more." */
    private static void whoWaitsWaitsAMinuteMore() {
        HouseBells x = Check.house(Check.floors(0, 0, 0));
        x.ring(0);
        x.pass(1);
        x.ring(2);
        for (int minute = 2; minute <= 29; minute++) {
            x.pass(1);
            Check.due("10: the first has waited", x.waitedFor(0), minute);
            Check.due("10: the last has waited", x.waitedFor(2), minute - 1);
            Check.due("10: who does not wait does not", x.waitedFor(1), -1);
        }
    }

    /** "If these are 30 then, it gives up, and waits no more": not at 29. */
    private static void givesUpAtThirty() {
        HouseBells x = Check.house(Check.floors(0));
        x.ring(0);
        x.pass(29);
        Check.due("10: waits at 29", x.waitedFor(0), 29);
        Check.due("10: has not given up at 29", x.gaveUp(), 0);
        x.pass(1);
        Check.due("10: waits no more at 30", x.waitedFor(0), -1);
        Check.due("10: gives up at 30", x.gaveUp(), 1);
        HouseBells y = Check.house(Check.floors(0));
        y.ring(0);
        y.pass(30);
        Check.due("10: waits no more behind 30 at once", y.waitedFor(0), -1);
    }

    /** It gives up once, and may wait anew. */
    private static void givesUpOnceForEachWait() {
        HouseBells x = Check.house(Check.floors(0));
        x.ring(0);
        x.pass(60);
        Check.due("10: gives up once", x.gaveUp(), 1);
        x.ring(0);
        x.pass(29);
        Check.due("10: not yet again", x.gaveUp(), 1);
        x.pass(1);
        Check.due("10: gives up again", x.gaveUp(), 2);
    }

    private static void allGiveUpInOneMinute() {
        HouseBells x = Check.house(Check.twelveFloors());
        Check.ringAll(x);
        x.pass(29);
        Check.due("10: none has given up", x.gaveUp(), 0);
        x.pass(1);
        Check.due("10: all give up", x.gaveUp(), 12);
        Check.due("10: none waits", x.longestWaiting(), -1);
        Check.due("10: their drops have fallen yet", x.fallen(), 12);
    }

    /** "otherwise": who gives up at 30 does not ring, though 30 is a multiple of the patience. */
    private static void givesUpInsteadOfRinging() {
        for (int patience : new int[] {1, 2, 3, 5, 6}) {
            HouseBells x = oneRoom(0, patience, 1);
            x.ring(0);
            x.pass(29);
            x.putUp(0);
            int charge = x.charge();
            x.pass(1);
            Check.due("10: gives up with patience " + patience, x.gaveUp(), 1);
            Check.due("10: takes nothing then", x.charge(), charge);
            Check.due("10: no drop falls then", x.fallen(), 0);
            x.cut(0);
            x.ring(0);
            x.pass(29);
            int unheard = x.unheard();
            x.pass(1);
            Check.due("10: no ring unheard then", x.unheard(), unheard);
        }
    }

    /** "if they are a multiple of its patience, it rings": in just these minutes, for each patience. */
    private static void ringsAtMultiplesOfItsPatience() {
        int[][] minutes = {
            {1, 2, 3, 4, 5, 6, 7, 8, 9, 10, 11, 12, 13, 14, 15, 16, 17, 18, 19, 20, 21, 22, 23, 24, 25, 26, 27, 28, 29},
            {2, 4, 6, 8, 10, 12, 14, 16, 18, 20, 22, 24, 26, 28},
            {3, 6, 9, 12, 15, 18, 21, 24, 27}, {4, 8, 12, 16, 20, 24, 28}, {5, 10, 15, 20, 25}, {6, 12, 18, 24},
            {7, 14, 21, 28}, {8, 16, 24}, {9, 18, 27}};
        for (int patience = 1; patience <= 9; patience++) {
            HouseBells x = oneRoom(0, patience, 1);
            x.ring(0);
            int rings = 0;
            for (int minute = 1; minute <= 30; minute++) {
                x.pass(1);
                if (rings < minutes[patience - 1].length && minutes[patience - 1][rings] == minute) {
                    rings++;
                }
                Check.due("10: patience " + patience + ", charge at " + minute, x.charge(), 199 - rings);
            }
            Check.due("10: all rings of patience " + patience, 199 - x.charge(), minutes[patience - 1].length);
        }
    }

    /** Who is served and waits again has waited a minute more too, and rings when it is time. */
    private static void ringsWhileItIsServed() {
        HouseBells x = oneRoom(0, 4, 9);
        x.addServant(1);
        x.ring(0);
        x.pass(2);
        x.cut(0);
        x.ring(0);
        x.mend(0);
        x.pass(3);
        Check.due("10: waits while it is served", x.waitedFor(0), 3);
        Check.due("10: does not ring yet", x.hasFallen(0), false);
        x.pass(1);
        Check.due("10: is served yet", x.serves(0), 0);
        Check.due("10: and rings", x.hasFallen(0), true);
        Check.due("10: and is heard", x.charge(), 198);
    }

    /** "Each room, by numbers": the smaller number rings first, whoever waits longer. */
    private static void ringsByNumbers() {
        HouseBells x = new HouseBells();
        x.addRoom(0, 3, 1);
        x.addRoom(0, 6, 1);
        waitUnheard(x, 1);
        x.pass(3);
        waitUnheard(x, 0);
        x.pass(3);
        Check.due("10: the smaller number falls first", x.placeInLine(0), 0);
        Check.due("10: the greater behind", x.placeInLine(1), 1);
        HouseBells all = new HouseBells();
        for (int room = 0; room < 12; room++) {
            all.addRoom(0, 2, 1);
        }
        for (int room = 11; room >= 0; room--) {
            waitUnheard(all, room);
        }
        all.recharge(11);
        all.pass(2);
        Check.due("10: the first of twelve", all.placeInLine(0), 0);
        Check.due("10: the eleventh takes the last charge", all.placeInLine(10), 10);
        Check.due("10: the twelfth is not heard", all.hasFallen(11), false);
    }

    /** A ring in a minute needs "as much or more" too. */
    private static void ringsUntilTheBatteryIsEmpty() {
        HouseBells x = oneRoom(5, 1, 1);
        waitUnheard(x, 0);
        x.recharge(5);
        x.pass(1);
        Check.due("10: too little", x.hasFallen(0), false);
        Check.due("10: nothing is taken", x.charge(), 5);
        Check.due("10: not heard", x.unheard(), 2);
        x.recharge(6);
        x.pass(1);
        Check.due("10: just enough", x.hasFallen(0), true);
        Check.due("10: all is taken", x.charge(), 0);
        x.pass(1);
        Check.due("10: nothing is left", x.unheard(), 3);
        Check.due("10: who is not heard waits on", x.waitedFor(0), 3);
    }

    /** A drop that falls in a minute is behind those that had fallen; one that had fallen keeps its place. */
    private static void ringOfTheSameMinuteIsBehindThoseByHand() {
        HouseBells x = new HouseBells();
        x.addRoom(0, 1, 1);
        x.addRoom(0, 9, 1);
        waitUnheard(x, 0);
        x.ring(1);
        x.pass(1);
        Check.due("10: by hand it fell first", x.nextDrop(), 1);
        Check.due("10: in the minute it fell behind", x.placeInLine(0), 1);
        x.pass(1);
        Check.due("10: again, it keeps its place", x.placeInLine(0), 1);
        Check.due("10: but takes", x.charge(), 197);
    }

    /** 1 is ahead of 2: who is served in this minute rings in it yet, if it is time. */
    private static void waitsFirstAndIsServedThen() {
        HouseBells x = oneRoom(0, 2, 1);
        x.addServant(1);
        x.ring(0);
        x.pass(2);
        Check.due("10: is served at 2", x.serves(0), 0);
        Check.due("10: and rang at 2", x.charge(), 198);
        Check.due("10: so its drop has fallen", x.nextDrop(), 0);
        HouseBells y = oneRoom(0, 3, 1);
        y.addServant(1);
        y.ring(0);
        y.pass(3);
        Check.due("10: who was served at 2 does not ring at 3", y.charge(), 199);
    }

    /** 1 is ahead of 2: a servant who comes at 29 serves, one who comes at 30 went in vain. */
    private static void givesUpFirstAndIsNotServedThen() {
        HouseBells x = Check.house(Check.floors(0));
        x.ring(0);
        x.pass(27);
        x.addServant(1);
        Check.due("10: is sent at 28, comes at 29", x.pass(2), 1);
        Check.due("10: nobody gave up", x.gaveUp(), 0);
        x.pass(30);
        Check.due("10: who is served gives up no more", x.gaveUp(), 0);
        HouseBells y = Check.house(Check.floors(0));
        y.ring(0);
        y.pass(28);
        y.addServant(1);
        Check.due("10: is sent at 29, comes at 30", y.pass(2), 0);
        Check.due("10: it gave up", y.gaveUp(), 1);
        Check.due("10: he went in vain", y.inVain(), 1);
    }

    /** "for as many minutes as the way takes", for each pace and floor; "is on the floor of the room then". */
    private static void minutesOfTheWay() {
        int[][] ways = {{1, 1, 2, 3, 4, 5}, {1, 1, 1, 2, 2, 3}, {1, 1, 1, 1, 2, 2}, {1, 1, 1, 1, 1, 2}};
        for (int pace = 1; pace <= 4; pace++) {
            for (int floor = 0; floor <= 5; floor++) {
                String what = "10: pace " + pace + " to floor " + floor + ": ";
                HouseBells x = Check.house(Check.floors(floor), pace);
                int way = ways[pace - 1][floor];
                x.ring(0);
                x.pass(1);
                for (int left = way; left >= 1; left--) {
                    Check.due(what + "goes", x.goesTo(0), 0);
                    Check.due(what + "left", x.minutesLeft(0), left);
                    Check.due(what + "from floor", x.floorOf(0), 0);
                    Check.due(what + "begins", x.pass(1), left == 1 ? 1 : 0);
                }
                Check.due(what + "is there", x.floorOf(0), floor);
                Check.due(what + "goes no more", x.goesTo(0), -1);
            }
        }
    }

    /** "serves it, for as many minutes as its need"; "Who serves, and has none left, is idle." */
    private static void minutesOfTheNeed() {
        for (int need = 1; need <= 9; need++) {
            HouseBells x = oneRoom(1, 9, need);
            x.addServant(1);
            x.ring(0);
            x.pass(2);
            for (int left = need; left >= 1; left--) {
                Check.due("10: need " + need + ", serves", x.serves(0), 0);
                Check.due("10: need " + need + ", left", x.minutesLeft(0), left);
                Check.due("10: need " + need + ", nobody is idle", x.nearestIdle(0), -1);
                x.pass(1);
            }
            Check.due("10: need " + need + ", serves no more", x.serves(0), -1);
            Check.due("10: need " + need + ", none left", x.minutesLeft(0), 0);
            Check.due("10: need " + need + ", idle", x.nearestIdle(0), 0);
            Check.due("10: need " + need + ", stays on the floor", x.floorOf(0), 1);
        }
    }

    /** "Each servant, by numbers": of two who come in one minute the smaller number serves. */
    private static void arrivesByNumbers() {
        HouseBells x = Check.house(Check.floors(2), 1);
        x.ring(0);
        x.pass(1);
        x.addServant(2);
        x.ring(0);
        x.pass(1);
        Check.due("10: both have a minute left, the first", x.minutesLeft(0), 1);
        Check.due("10: and the second", x.minutesLeft(1), 1);
        Check.due("10: one of them serves", x.pass(1), 1);
        Check.due("10: the first", x.serves(0), 0);
        Check.due("10: the second does not", x.serves(1), -1);
        Check.due("10: he went in vain", x.inVain(), 1);
        Check.due("10: and is on that floor", x.floorOf(1), 2);
    }

    /** "otherwise the servant went in vain, and is idle", on the floor of the room. */
    private static void arrivesInVain() {
        HouseBells x = Check.house(Check.floors(0, 5), 4);
        x.cross(0, 1);
        x.ring(0);
        x.pass(2);
        Check.due("10: not yet in vain", x.inVain(), 0);
        Check.due("10: not yet there", x.floorOf(0), 0);
        Check.due("10: serves nobody", x.pass(1), 0);
        Check.due("10: in vain", x.inVain(), 1);
        Check.due("10: on the floor", x.floorOf(0), 5);
        Check.due("10: serves none", x.serves(0), -1);
        Check.due("10: goes to none", x.goesTo(0), -1);
        Check.due("10: none left", x.minutesLeft(0), 0);
        Check.due("10: idle", x.nearestIdle(1), 0);
        Check.due("10: served in all", x.served(), 0);
    }

    private static void sixArriveInVain() {
        HouseBells x = Check.house(Check.twelveFloors(), 1, 1, 1, 1, 1, 1);
        for (int room = 0; room < 6; room++) {
            x.cross(room, room + 6);
            x.ring(room);
        }
        x.pass(2);
        Check.due("10: all six in vain", x.inVain(), 6);
        Check.due("10: none served", x.served(), 0);
        Check.due("10: all idle", x.nearestIdle(0), 0);
    }

    /** "As long as some drop has fallen": who is done stays where he is without one. */
    private static void staysIdleWithoutADrop() {
        HouseBells x = Check.house(Check.floors(4), 4);
        x.ring(0);
        x.pass(4);
        Check.due("10: idle on the floor", x.floorOf(0), 4);
        x.pass(60);
        Check.due("10: on it yet", x.floorOf(0), 4);
        Check.due("10: goes to none", x.goesTo(0), -1);
    }

    /** 2 is ahead of 3: who is idle now, by a service or in vain, is sent in this minute; a ring of 1 is enough. */
    private static void isSentOnInTheSameMinute() {
        HouseBells x = Check.house(Check.floors(0, 0), 1);
        x.ring(0);
        x.ring(1);
        x.pass(4);
        Check.due("10: behind a service", x.goesTo(0), 1);
        Check.due("10: for a whole way", x.minutesLeft(0), 1);
        HouseBells y = Check.house(Check.floors(0, 0, 0), 1);
        y.cross(0, 2);
        y.ring(0);
        y.ring(1);
        y.pass(2);
        Check.due("10: behind a way in vain", y.goesTo(0), 1);
        HouseBells z = oneRoom(0, 1, 1);
        z.addServant(1);
        waitUnheard(z, 0);
        z.pass(1);
        Check.due("10: behind a ring of this minute", z.goesTo(0), 0);
        Check.due("10: for a whole way then", z.minutesLeft(0), 1);
    }

    /** "the drop that fell first stands again", not the smallest number. */
    private static void firstDropFirst() {
        HouseBells x = Check.house(Check.floors(0, 0, 0), 1);
        x.ring(2);
        x.ring(0);
        x.ring(1);
        x.pass(1);
        Check.due("10: to the first", x.goesTo(0), 2);
        Check.due("10: the next is first", x.nextDrop(), 0);
        x.pass(3);
        Check.due("10: to the second", x.goesTo(0), 0);
        x.pass(3);
        Check.due("10: to the third", x.goesTo(0), 1);
        Check.due("10: no drop is left", x.nextDrop(), -1);
    }

    private static void moreDropsThanServants() {
        HouseBells x = Check.house(Check.twelveFloors(), 1, 1, 1, 1, 1, 1);
        Check.ringAll(x);
        x.pass(1);
        for (int servant = 0; servant < 6; servant++) {
            Check.due("10: each is sent in one minute", x.goesTo(servant), servant);
        }
        Check.due("10: six drops have fallen yet", x.fallen(), 6);
        Check.due("10: the seventh is first", x.nextDrop(), 6);
        Check.due("10: the twelfth is last", x.placeInLine(11), 5);
    }

    private static void moreServantsThanDrops() {
        HouseBells x = Check.house(Check.floors(0), 1, 1, 1, 1, 1, 1);
        x.ring(0);
        x.pass(1);
        Check.due("10: one goes", x.goesTo(0), 0);
        for (int servant = 1; servant < 6; servant++) {
            Check.due("10: the others do not", x.goesTo(servant), -1);
        }
        Check.due("10: no drop is left", x.fallen(), 0);
    }

    private static void allDropsOneServant() {
        HouseBells x = Check.house(Check.twelveFloors(), 1);
        for (int room = 11; room >= 0; room--) {
            x.ring(room);
        }
        x.pass(1);
        Check.due("10: one is sent", x.goesTo(0), 11);
        Check.due("10: eleven have fallen yet", x.fallen(), 11);
        Check.due("10: they moved up", x.placeInLine(0), 10);
    }

    /** "the one with the shortest way of those who are idle, of several the one with the smallest number". */
    private static void nearestOfSeveral() {
        // To floor 5 paces 3 and 4 take 2 minutes each, pace 2 takes 3.
        HouseBells x = Check.house(Check.floors(5, 5, 5), 2, 3, 4);
        Check.ringAll(x);
        x.pass(1);
        Check.due("10: the smaller number of the fast ones to the first", x.goesTo(1), 0);
        Check.due("10: the other to the second", x.goesTo(2), 1);
        Check.due("10: the slow one to the third", x.goesTo(0), 2);
        // A way of no floors takes 1 minute too, so the smaller number goes from floor 1, though another is there.
        HouseBells y = Check.house(Check.floors(1, 0), 1, 1);
        y.ring(0);
        y.pass(4);
        Check.due("10: the first is on floor 1", y.floorOf(0), 1);
        y.ring(1);
        y.pass(1);
        Check.due("10: the first goes", y.goesTo(0), 1);
        Check.due("10: the second is there, but stays", y.goesTo(1), -1);
        Check.due("10: the way", y.minutesLeft(0), 1);
    }

    /** "the drop that fell first stands again": it may fall again while a servant goes. */
    private static void dropStandsWhenOneIsSent() {
        HouseBells x = Check.house(Check.floors(5), 1, 1);
        x.ring(0);
        x.pass(1);
        Check.due("10: it stands", x.hasFallen(0), false);
        Check.due("10: none has fallen", x.fallen(), 0);
        x.ring(0);
        Check.due("10: it falls again", x.nextDrop(), 0);
        x.pass(1);
        Check.due("10: a second one goes", x.goesTo(1), 0);
        Check.due("10: the first goes on", x.minutesLeft(0), 4);
    }

    /** "the nearest idle servant of the room with its number goes to this room", by that room's floor. */
    private static void sentToTheRoomOfTheNumber() {
        HouseBells x = Check.house(Check.floors(0, 5), 1, 2);
        x.cross(0, 1);
        x.ring(0);
        x.pass(1);
        Check.due("10: the nearest of floor 5 goes", x.goesTo(1), 1);
        Check.due("10: the way to floor 5", x.minutesLeft(1), 3);
        Check.due("10: not the nearest of who rang", x.goesTo(0), -1);
    }

    /** A drop stays fallen when its room gives up: who is sent then goes in vain. */
    private static void sentToWhoGaveUp() {
        HouseBells x = Check.house(Check.floors(0));
        x.ring(0);
        x.pass(30);
        x.addServant(1);
        x.pass(1);
        Check.due("10: is sent", x.goesTo(0), 0);
        x.pass(1);
        Check.due("10: in vain", x.inVain(), 1);
        Check.due("10: serves nobody", x.served(), 0);
    }

    /** "The minute is 1 greater." */
    private static void minuteIsOneGreater() {
        HouseBells x = Check.house(Check.floors(0), 1);
        x.ring(0);
        for (int minute = 1; minute <= 40; minute++) {
            x.pass(1);
            Check.due("10: minute", x.minute(), minute);
        }
    }
}
