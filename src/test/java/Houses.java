/** Houses with nothing, with one of each, and with as much as there can be. */
final class Houses {
    private Houses() {
    }

    static HouseBells empty() {
        return new HouseBells();
    }

    /** One room that waits, its drop fallen, and one servant, idle yet. */
    static HouseBells one() {
        HouseBells x = new HouseBells();
        x.addRoom(2, 4, 3);
        x.addServant(1);
        x.ring(0);
        return x;
    }

    /** One room with a cut wire, where nobody waits, and one servant. */
    static HouseBells oneCut() {
        HouseBells x = new HouseBells();
        x.addRoom(2, 4, 3);
        x.addServant(1);
        x.cut(0);
        return x;
    }

    /**
     * All rooms and servants, in the midst of it: servants who are idle, go and serve, rooms that wait and do not,
     * drops that stand and have fallen, wires that are crossed and cut, and some of each count.
     */
    static HouseBells full() {
        HouseBells x = new HouseBells();
        for (int room = 0; room < 12; room++) {
            x.addRoom(room % 6, room % 9 + 1, 9 - room % 9);
        }
        for (int servant = 0; servant < 6; servant++) {
            x.addServant(servant % 4 + 1);
        }
        x.cross(0, 1);
        x.cross(1, 2);
        x.cross(10, 11);
        x.cut(4);
        x.cut(9);
        x.recharge(60);
        x.ring(4);
        x.pass(29);
        x.ring(0);
        x.ring(9);
        x.pass(2);
        x.ring(11);
        x.ring(5);
        x.ring(3);
        x.pass(3);
        x.ring(10);
        x.pass(1);
        x.ring(8);
        x.ring(7);
        x.ring(1);
        return x;
    }
}
