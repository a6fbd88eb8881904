/** What the tests by examples share: names for the refusals, small objects to ask, and rows of answers. */
abstract class Examples {
    static final Class<IllegalArgumentException> UNKNOWN = IllegalArgumentException.class;
    static final Class<IndexOutOfBoundsException> OUTSIDE = IndexOutOfBoundsException.class;
    static final Class<IllegalStateException> STATE = IllegalStateException.class;
    static final Class<UnsupportedOperationException> NO_ROOM = UnsupportedOperationException.class;
    static final Class<ArithmeticException> NOT_TOLD = ArithmeticException.class;

    /** Hydrants 0 .. count - 1, public, at 0, 0, on main 0. */
    static HydrantRows withHydrants(int count) {
        HydrantRows rows = new HydrantRows();
        for (int i = 0; i < count; i++) {
            rows.hydrant(0, 0, 0, 0);
        }
        return rows;
    }

    /** Public hydrants on main 0, one at each place. */
    static HydrantRows withPlaces(int[]... places) {
        HydrantRows rows = new HydrantRows();
        for (int[] place : places) {
            rows.hydrant(place[0], place[1], 0, 0);
        }
        return rows;
    }

    /** Hydrants as round wants them told, six bits each. */
    static long stops(int... numbers) {
        long told = 0;
        for (int i = 0; i < numbers.length; i++) {
            told |= (long) numbers[i] << 6 * i;
        }
        return told;
    }

    static void expectStops(HydrantRows rows, int... due) {
        for (int i = 0; i < due.length; i++) {
            int at = i;
            Check.answers(due[i], () -> rows.stop(at));
        }
        Check.answers(-1, () -> rows.stop(due.length));
    }

    static void expectNear(HydrantRows rows, int x, int y, int day, int... due) {
        for (int i = 0; i < due.length; i++) {
            int at = i;
            Check.answers(due[i], () -> rows.near(x, y, day, at));
        }
        Check.answers(-1, () -> rows.near(x, y, day, due.length));
    }

    static void expectOverdue(HydrantRows rows, int day, int days, int... due) {
        for (int i = 0; i < due.length; i++) {
            int at = i;
            Check.answers(due[i], () -> rows.overdue(day, days, at));
        }
        Check.answers(-1, () -> rows.overdue(day, days, due.length));
    }

    static void expectFlow(HydrantRows rows, int hydrant, int pressure, int upper, int lower) {
        Check.answers(upper, () -> rows.flow(hydrant, pressure, 0));
        Check.answers(lower, () -> rows.flow(hydrant, pressure, 1));
    }
}
