/** Counts and prints what is not as due; a test's main method ends with finish(). */
final class Check {
    private static int wrong = 0;
    private static int looked = 0;

    private Check() {
    }

    interface Call {
        Object answer();
    }

    /** Makes the same house each time. */
    interface Maker {
        HouseBells make();
    }

    interface Ask {
        Object of(HouseBells house);
    }

    static void due(String what, Object got, Object want) {
        looked++;
        if (!want.equals(got)) {
            wrong++;
            System.out.println(what + " answered " + got + ", due is " + want);
        }
    }

    /** The call throws just this exception (no class below it), and the digest stays as it is. */
    static void refused(String what, HouseBells house, Class<?> exception, Call call) {
        long before = house.digest();
        due(what, outcome(call), thrown(exception));
        due(what + " leaves the digest", house.digest(), before);
    }

    static void outside(String what, HouseBells house, Call call) {
        refused(what, house, IndexOutOfBoundsException.class, call);
    }

    static void illegal(String what, HouseBells house, Call call) {
        refused(what, house, IllegalArgumentException.class, call);
    }

    static void state(String what, HouseBells house, Call call) {
        refused(what, house, IllegalStateException.class, call);
    }

    /** As refused, but on a new house, which then answers as its twin that was never asked. */
    static void refusedLikeTwin(String what, Maker maker, Class<?> exception, Ask ask) {
        HouseBells asked = maker.make();
        due(what, outcome(() -> ask.of(asked)), thrown(exception));
        likeTwin(what, asked, maker.make());
    }

    /** The call answers, and the house then answers as its twin that was never asked. */
    static void changesNothing(String what, Maker maker, Ask ask) {
        HouseBells asked = maker.make();
        String outcome = outcome(() -> ask.of(asked));
        due(what + " answers: " + outcome, outcome.startsWith("throws"), false);
        likeTwin(what, asked, maker.make());
    }

    /** Some minutes later too, for what does not show at once, such as the need of a room. */
    private static void likeTwin(String what, HouseBells asked, HouseBells twin) {
        due(what + " changes nothing", look(asked), look(twin));
        due(what + " changes nothing by digest", asked.digest(), twin.digest());
        due(what + " changes nothing by pass", asked.pass(7), twin.pass(7));
        due(what + " changes nothing later", look(asked), look(twin));
        due(what + " changes nothing later by digest", asked.digest(), twin.digest());
    }

    /** The answer as a text, or the exception's name. */
    static String outcome(Call call) {
        try {
            return String.valueOf(call.answer());
        } catch (RuntimeException e) {
            return thrown(e.getClass());
        }
    }

    private static String thrown(Class<?> exception) {
        return "throws " + exception.getName();
    }

    /** Every answer that looks at the house, without those that the digest is made for. */
    static String look(HouseBells x) {
        StringBuilder text = new StringBuilder();
        text.append(x.minute()).append(' ').append(x.rooms()).append(' ').append(x.servants()).append(' ');
        text.append(x.charge()).append(' ').append(x.served()).append(' ').append(x.inVain()).append(' ');
        text.append(x.gaveUp()).append(' ').append(x.unheard()).append(' ').append(x.longestWaiting()).append(' ');
        text.append(x.crossed()).append(' ').append(x.crossingsNeeded()).append(' ').append(x.fallen()).append(' ');
        text.append(x.nextDrop()).append(' ').append(x.meanWait()).append('\n');
        for (int room = 0; room < x.rooms(); room++) {
            text.append("room ").append(room).append(": ").append(x.dropOf(room)).append(' ');
            text.append(x.roomOf(room)).append(' ').append(x.isCut(room)).append(' ');
            text.append(x.waitedFor(room)).append(' ').append(x.hasFallen(room)).append(' ');
            text.append(x.placeInLine(room)).append(' ').append(x.ringsLeft(room)).append(' ');
            text.append(x.nearestIdle(room)).append('\n');
        }
        for (int servant = 0; servant < x.servants(); servant++) {
            text.append("servant ").append(servant).append(": ").append(x.floorOf(servant)).append(' ');
            text.append(x.goesTo(servant)).append(' ').append(x.serves(servant)).append(' ');
            text.append(x.minutesLeft(servant)).append('\n');
        }
        return text.toString();
    }

    /** A house with rooms on these floors, of patience 9 and need 2, and servants of these paces. */
    static HouseBells house(int[] floors, int... paces) {
        HouseBells x = new HouseBells();
        for (int floor : floors) {
            x.addRoom(floor, 9, 2);
        }
        for (int pace : paces) {
            x.addServant(pace);
        }
        return x;
    }

    static int[] floors(int... floors) {
        return floors;
    }

    /** As many rooms as there can be, all on floor 0. */
    static int[] twelveFloors() {
        return new int[12];
    }

    static void ringAll(HouseBells x) {
        for (int room = 0; room < x.rooms(); room++) {
            x.ring(room);
        }
    }

    static void finish(String test) {
        System.out.println(test + ": " + looked + " answers looked at, " + wrong + " not as due");
        if (wrong != 0 || looked == 0) {
            System.exit(1);
        }
    }
}
