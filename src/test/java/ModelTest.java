/** Long mixed runs, held call by call against PlainHouse. The same seeds give the same runs each time. */
public final class ModelTest {
    private static final int RUNS = 1200;
    /** An object is used for no more; the document leaves free what later calls answer. */
    private static final int CALLS = 512;

    private long seed;
    private int calls;
    private HouseBells x;
    private PlainHouse plain;

    public static void main(String[] args) {
        for (int run = 1; run <= RUNS; run++) {
            new ModelTest().run(run);
        }
        Check.finish("ModelTest");
    }

    /** A number from least to most. */
    private int draw(int least, int most) {
        seed = seed * 6364136223846793005L + 1442695040888963407L;
        return least + (int) ((seed >>> 33) % (most - least + 1));
    }

    /** Mostly a number below the count, now and then one outside. */
    private int drawIndex(int count) {
        if (count == 0 || draw(1, 40) == 1) {
            int[] odd = {-1, count, count + 1, Integer.MAX_VALUE, Integer.MIN_VALUE};
            return odd[draw(0, odd.length - 1)];
        }
        return draw(0, count - 1);
    }

    private int drawNear(int least, int most) {
        return draw(1, 30) == 1 ? (draw(0, 1) == 0 ? least - 1 : most + 1) : draw(least, most);
    }

    private void run(int run) {
        seed = run * 7919L;
        x = new HouseBells();
        plain = new PlainHouse();
        int rooms = draw(0, 13);
        int servants = draw(0, 7);
        int longest = draw(0, 2) == 0 ? 60 : draw(1, 6);
        int first = rooms + servants;
        while (calls < CALLS) {
            String what = "run " + run + ", call " + (calls + 1) + ": ";
            if (calls < rooms || calls >= first && draw(1, 60) == 1) {
                addRoom(what);
            } else if (calls < first || draw(1, 60) == 1) {
                addServant(what);
            } else if (draw(0, 9) < 8) {
                change(what, longest);
            } else {
                look(what);
            }
        }
    }

    private void same(String what, Check.Call got, Check.Call due) {
        if (calls < CALLS) {
            calls++;
            Check.due(what, Check.outcome(got), Check.outcome(due));
        }
    }

    private void addRoom(String what) {
        int floor = drawNear(0, 5);
        int patience = drawNear(1, 9);
        int need = drawNear(1, 9);
        same(what + "addRoom(" + floor + ", " + patience + ", " + need + ")",
                () -> x.addRoom(floor, patience, need), () -> plain.addRoom(floor, patience, need));
    }

    private void addServant(String what) {
        int pace = drawNear(1, 4);
        same(what + "addServant(" + pace + ")", () -> x.addServant(pace), () -> plain.addServant(pace));
    }

    private void change(String what, int longest) {
        int room = drawIndex(plain.rooms());
        int other = drawIndex(plain.rooms());
        int charge = draw(0, 2) == 0 ? drawNear(0, 500) : draw(0, 30);
        int minutes = draw(1, 40) == 1 ? draw(-1, 62) : draw(1, longest);
        switch (draw(0, 15)) {
            case 0, 1 -> same(what + "cross(" + room + ", " + other + ")",
                    () -> x.cross(room, other), () -> plain.cross(room, other));
            case 2 -> same(what + "cut(" + room + ")", () -> x.cut(room), () -> plain.cut(room));
            case 3 -> same(what + "mend(" + room + ")", () -> x.mend(room), () -> plain.mend(room));
            case 4 -> same(what + "recharge(" + charge + ")", () -> x.recharge(charge), () -> plain.recharge(charge));
            case 5 -> same(what + "putUp(" + room + ")", () -> x.putUp(room), () -> plain.putUp(room));
            case 6, 7, 8, 9 -> same(what + "pass(" + minutes + ")", () -> x.pass(minutes), () -> plain.pass(minutes));
            default -> same(what + "ring(" + room + ")", () -> x.ring(room), () -> plain.ring(room));
        }
    }

    private void look(String what) {
        int minutes = drawNear(1, 60);
        switch (draw(0, 5)) {
            case 0 -> lookAtAll(what);
            case 1, 2 -> lookAtRoom(what, drawIndex(plain.rooms()));
            case 3 -> lookAtServant(what, drawIndex(plain.servants()), drawIndex(plain.rooms()));
            case 4 -> same(what + "servedIn(" + minutes + ")", () -> x.servedIn(minutes), () -> plain.servedIn(minutes));
            default -> same(what + "digest()", () -> x.digest(), () -> plain.digest());
        }
    }

    private void lookAtAll(String what) {
        same(what + "minute()", () -> x.minute(), () -> plain.minute());
        same(what + "rooms()", () -> x.rooms(), () -> plain.rooms());
        same(what + "servants()", () -> x.servants(), () -> plain.servants());
        same(what + "charge()", () -> x.charge(), () -> plain.charge());
        same(what + "served()", () -> x.served(), () -> plain.served());
        same(what + "inVain()", () -> x.inVain(), () -> plain.inVain());
        same(what + "gaveUp()", () -> x.gaveUp(), () -> plain.gaveUp());
        same(what + "unheard()", () -> x.unheard(), () -> plain.unheard());
        same(what + "longestWaiting()", () -> x.longestWaiting(), () -> plain.longestWaiting());
        same(what + "crossed()", () -> x.crossed(), () -> plain.crossed());
        same(what + "crossingsNeeded()", () -> x.crossingsNeeded(), () -> plain.crossingsNeeded());
        same(what + "fallen()", () -> x.fallen(), () -> plain.fallen());
        same(what + "nextDrop()", () -> x.nextDrop(), () -> plain.nextDrop());
        same(what + "meanWait()", () -> x.meanWait(), () -> plain.meanWait());
    }

    private void lookAtRoom(String what, int room) {
        String of = "(" + room + ")";
        same(what + "dropOf" + of, () -> x.dropOf(room), () -> plain.dropOf(room));
        same(what + "roomOf" + of, () -> x.roomOf(room), () -> plain.roomOf(room));
        same(what + "isCut" + of, () -> x.isCut(room), () -> plain.isCut(room));
        same(what + "waitedFor" + of, () -> x.waitedFor(room), () -> plain.waitedFor(room));
        same(what + "hasFallen" + of, () -> x.hasFallen(room), () -> plain.hasFallen(room));
        same(what + "placeInLine" + of, () -> x.placeInLine(room), () -> plain.placeInLine(room));
        same(what + "ringsLeft" + of, () -> x.ringsLeft(room), () -> plain.ringsLeft(room));
        same(what + "nearestIdle" + of, () -> x.nearestIdle(room), () -> plain.nearestIdle(room));
        same(what + "minutesUntilServed" + of, () -> x.minutesUntilServed(room), () -> plain.minutesUntilServed(room));
        same(what + "bestToCross" + of, () -> x.bestToCross(room), () -> plain.bestToCross(room));
    }

    private void lookAtServant(String what, int servant, int room) {
        String of = "(" + servant + ")";
        same(what + "floorOf" + of, () -> x.floorOf(servant), () -> plain.floorOf(servant));
        same(what + "goesTo" + of, () -> x.goesTo(servant), () -> plain.goesTo(servant));
        same(what + "serves" + of, () -> x.serves(servant), () -> plain.serves(servant));
        same(what + "minutesLeft" + of, () -> x.minutesLeft(servant), () -> plain.minutesLeft(servant));
        same(what + "wayTo(" + servant + ", " + room + ")",
                () -> x.wayTo(servant, room), () -> plain.wayTo(servant, room));
    }
}
