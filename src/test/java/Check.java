/** Counts and prints what is not as due; a test's main method ends with finish(). */
final class Check {
    private static int wrong = 0;
    private static int looked = 0;

    private Check() {
    }

    interface Call {
        Object answer();
    }

    static void due(String what, Object got, Object want) {
        looked++;
        if (!want.equals(got)) {
            wrong++;
            System.out.println(what + " answered " + got + ", due is " + want);
        }
    }

    /** The call throws just this exception (no class below it), and the house stays as it is. */
    static void refused(String what, HouseBells house, Class<?> exception, Call call) {
        String before = look(house);
        due(what, outcome(call), "throws " + exception.getName());
        due(what + " changes nothing", look(house), before);
    }

    static void outside(String what, HouseBells house, Call call) {
        refused(what, house, IndexOutOfBoundsException.class, call);
    }

    static void illegal(String what, HouseBells house, Call call) {
        refused(what, house, IllegalArgumentException.class, call);
    }

    static void state(String what, HouseBells house, Call call) {
        refused(what, house, IllegalStateException.class, call);
    }

    /** The answer as a text, or the exception's name. */
    static String outcome(Call call) {
        try {
            return String.valueOf(call.answer());
        } catch (RuntimeException e) {
            return "throws " + e.getClass().getName();
        }
    }

    /** Every answer that looks at the house, without those that the digest is made for. */
    static String look(HouseBells x) {
        StringBuilder text = new StringBuilder();
        text.append(x.minute()).append(' ').append(x.rooms()).append(' ').append(x.servants()).append(' ');
        text.append(x.charge()).append(' ').append(x.served()).append(' ').append(x.inVain()).append(' ');
        text.append(x.gaveUp()).append(' ').append(x.unheard()).append(' ').append(x.longestWaiting()).append(' ');
        text.append(x.crossed()).append(' ').append(x.crossingsNeeded()).append(' ').append(x.fallen()).append(' ');
        text.append(x.nextDrop()).append(' ').append(x.meanWait()).append('\n');
        for (int room = 0; room < x.rooms(); room++) {
            text.append("room ").append(room).append(": ").append(x.dropOf(room)).append(' ');
            text.append(x.roomOf(room)).append(' ').append(x.isCut(room)).append(' ');
            text.append(x.waitedFor(room)).append(' ').append(x.hasFallen(room)).append(' ');
            text.append(x.placeInLine(room)).append(' ').append(x.ringsLeft(room)).append(' ');
            text.append(x.nearestIdle(room)).append('\n');
        }
        for (int servant = 0; servant < x.servants(); servant++) {
            text.append("servant ").append(servant).append(": ").append(x.floorOf(servant)).append(' ');
            text.append(x.goesTo(servant)).append(' ').append(x.serves(servant)).append(' ');
            text.append(x.minutesLeft(servant)).append('\n');
        }
        return text.toString();
    }

    /** A house with rooms on these floors, of patience 9 and need 2, and servants of these paces. */
    static HouseBells house(int[] floors, int... paces) {
        HouseBells x = new HouseBells();
        for (int floor : floors) {
            x.addRoom(floor, 9, 2);
        }
        for (int pace : paces) {
            x.addServant(pace);
        }
        return x;
    }

    static int[] floors(int... floors) {
        return floors;
    }

    static void finish(String test) {
        System.out.println(test + ": " + looked + " answers looked at, " + wrong + " not as due");
        if (wrong != 0 || looked == 0) {
            System.exit(1);
        }
    }
}
