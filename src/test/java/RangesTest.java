import java.util.function.Supplier;

/** Every range of every call: the last value that is taken and the first one that is refused, on either side. */
public final class RangesTest extends Examples {
    private interface ValueCall {
        void with(HydrantRows rows, int value);
    }

    private static final int NO_END = Integer.MAX_VALUE;

    public static void main(String[] args) {
        days();
        pressures();
        flows();
        places();
        mainsAndKinds();
        gradesAndMonths();
        hoses();
        daysAgo();
        whats();
        rowPlaces();
        for (int count : new int[] {0, 1, 2, 39, 40}) {
            hydrantNumbers(count);
        }
        for (int count : new int[] {2, 39, 40}) {
            numbersOfTwo(count);
        }
        for (int count : new int[] {7, 39, 40}) {
            numbersOfRound(count);
        }
        for (int count : new int[] {0, 1, 99, 100}) {
            testNumbers(count);
        }
        countsOfRound();
        Check.end();
    }

    /** Three other waters, each with a test: no call is refused here but for the value that is tried. */
    private static HydrantRows ready() {
        return waters(3);
    }

    private static HydrantRows waters(int count) {
        HydrantRows rows = new HydrantRows();
        for (int i = 0; i < count; i++) {
            rows.hydrant(i, i, 0, 2);
            rows.test(i, 0, 600, 1_000, 200);
        }
        return rows;
    }

    private static void outside(String name, int low, int high, ValueCall call) {
        range(name, OUTSIDE, low, high, RangesTest::ready, call);
    }

    private static void unknown(String name, int low, int high, ValueCall call) {
        range(name, UNKNOWN, low, high, RangesTest::ready, call);
    }

    /** A new object for each value, so that none is refused for the sake of another. */
    private static void range(String name, Class<? extends RuntimeException> refusal, int low, int high,
            Supplier<HydrantRows> made, ValueCall call) {
        if (low <= high) {
            taken(name, low, made, call);
            taken(name, high, made, call);
        }
        refused(name, refusal, low - 1, made, call);
        refused(name, refusal, Integer.MIN_VALUE, made, call);
        if (high != NO_END) {
            refused(name, refusal, high + 1, made, call);
            refused(name, refusal, Integer.MAX_VALUE, made, call);
        }
    }

    private static void taken(String name, int value, Supplier<HydrantRows> made, ValueCall call) {
        Check.promise(name + " " + value);
        HydrantRows rows = made.get();
        Check.done(() -> call.with(rows, value));
    }

    private static void refused(String name, Class<? extends RuntimeException> refusal, int value,
            Supplier<HydrantRows> made, ValueCall call) {
        Check.promise(name + " " + value);
        HydrantRows rows = made.get();
        Check.refusesDeed(refusal, () -> call.with(rows, value));
    }

    private static void days() {
        outside("test's day", 0, 99_999, (rows, day) -> rows.test(0, day, 600, 1_000, 200));
        outside("works' first day", 0, 99_999, (rows, day) -> rows.works(0, day, 99_999));
        outside("works' last day", 0, 99_999, (rows, day) -> rows.works(0, 0, day));
        outside("works' last day, not below the first", 500, 99_999, (rows, day) -> rows.works(0, 500, day));
        outside("works' first day, not above the last", 0, 500, (rows, day) -> rows.works(0, day, 500));
        outside("usable's day", 0, 99_999, (rows, day) -> rows.usable(0, day));
        outside("near's day", 0, 99_999, (rows, day) -> rows.near(0, 0, day, 0));
        outside("supply's day", 0, 99_999, (rows, day) -> rows.supply(0, 0, day, 0, 0));
        outside("overdue's day", 0, 99_999, (rows, day) -> rows.overdue(day, 0, 0));
    }

    private static void pressures() {
        outside("test's rest", 0, 2_000, (rows, pressure) -> rows.test(0, 0, pressure, 1_000, 0));
        outside("test's left", 0, 2_000, (rows, pressure) -> rows.test(0, 0, 2_000, 1_000, pressure));
        outside("flow's pressure", 0, 2_000, (rows, pressure) -> rows.flow(0, pressure, 0));
        outside("both's pressure", 0, 2_000, (rows, pressure) -> rows.both(0, 1, pressure));
        outside("supply's pressure", 0, 2_000, (rows, pressure) -> rows.supply(0, 0, 0, pressure, 0));
    }

    private static void flows() {
        outside("limit's flow", 0, 20_000, (rows, flow) -> rows.limit(0, flow));
        outside("test's flow", 0, 20_000, (rows, flow) -> rows.test(0, 0, 600, flow, 200));
    }

    private static void places() {
        outside("hydrant's x", -50_000, 50_000, (rows, x) -> rows.hydrant(x, 0, 0, 0));
        outside("hydrant's y", -50_000, 50_000, (rows, y) -> rows.hydrant(0, y, 0, 0));
        outside("near's x", -50_000, 50_000, (rows, x) -> rows.near(x, 0, 0, 0));
        outside("near's y", -50_000, 50_000, (rows, y) -> rows.near(0, y, 0, 0));
        outside("supply's x", -50_000, 50_000, (rows, x) -> rows.supply(x, 0, 0, 0, 0));
        outside("supply's y", -50_000, 50_000, (rows, y) -> rows.supply(0, y, 0, 0, 0));
    }

    private static void mainsAndKinds() {
        unknown("hydrant's main", 0, 19, (rows, main) -> rows.hydrant(0, 0, main, 0));
        unknown("limit's main", 0, 19, (rows, main) -> rows.limit(main, 0));
        unknown("hydrant's kind", 0, 2, (rows, kind) -> rows.hydrant(0, 0, 0, kind));
    }

    private static void gradesAndMonths() {
        outside("defect's grade", 0, 2, (rows, grade) -> rows.defect(0, grade));
        outside("season's month, dry", 0, 11, (rows, month) -> rows.season(0, month, true));
        outside("season's month, not dry", 0, 11, (rows, month) -> rows.season(0, month, false));
    }

    private static void hoses() {
        outside("supply's hose", 0, 200_000, (rows, hose) -> rows.supply(0, 0, 0, 0, hose));
    }

    private static void daysAgo() {
        outside("overdue's days", 0, 9_999, (rows, days) -> rows.overdue(0, days, 0));
    }

    private static void whats() {
        unknown("flow's what", 0, 1, (rows, what) -> rows.flow(0, 0, what));
        unknown("testAt's what", 0, 4, (rows, what) -> rows.testAt(0, what));
        unknown("hydrantAt's what", 0, 5, (rows, what) -> rows.hydrantAt(0, what));
    }

    private static void rowPlaces() {
        outside("near's i", 0, NO_END, (rows, i) -> rows.near(0, 0, 0, i));
        outside("stop's i", 0, NO_END, (rows, i) -> rows.stop(i));
        outside("overdue's i", 0, NO_END, (rows, i) -> rows.overdue(0, 0, i));
    }

    private static void hydrants(String name, int count, ValueCall call) {
        range(name + " of " + count, UNKNOWN, 0, count - 1, () -> waters(count), call);
    }

    private static void hydrantNumbers(int count) {
        hydrants("test's hydrant", count, (rows, number) -> rows.test(number, 0, 600, 1_000, 200));
        hydrants("flow's hydrant", count, (rows, number) -> rows.flow(number, 0, 0));
        hydrants("sort's hydrant", count, (rows, number) -> rows.sort(number));
        hydrants("defect's hydrant", count, (rows, number) -> rows.defect(number, 0));
        hydrants("works' hydrant", count, (rows, number) -> rows.works(number, 0, 0));
        hydrants("season's hydrant", count, (rows, number) -> rows.season(number, 0, true));
        hydrants("usable's hydrant", count, (rows, number) -> rows.usable(number, 0));
        hydrants("hydrantAt's hydrant", count, (rows, number) -> rows.hydrantAt(number, 0));
    }

    private static void numbersOfTwo(int count) {
        hydrants("both's hydrant", count, (rows, number) -> rows.both(number, number == 0 ? 1 : 0, 0));
        hydrants("both's other", count, (rows, number) -> rows.both(number == 0 ? 1 : 0, number, 0));
    }

    /** Each of the six places of a round, behind and before five hydrants that are known. */
    private static void numbersOfRound(int count) {
        for (int place = 0; place < 6; place++) {
            int at = place;
            ValueCall call = (rows, number) -> rows.round(roundWith(at, number), 6);
            String name = "round's place " + place + " of " + count;
            taken(name, 0, () -> waters(count), call);
            taken(name, count - 1, () -> waters(count), call);
            refused(name, UNKNOWN, count, () -> waters(count), call);
            refused(name, UNKNOWN, 63, () -> waters(count), call);
        }
    }

    private static long roundWith(int place, int number) {
        int[] told = new int[6];
        int next = 0;
        for (int i = 0; i < told.length; i++) {
            next += next == number ? 1 : 0;
            told[i] = i == place ? number : next++;
        }
        return stops(told);
    }

    private static void testNumbers(int count) {
        range("testAt's test of " + count, UNKNOWN, 0, count - 1, () -> withTests(count),
            (rows, number) -> rows.testAt(number, 0));
    }

    private static HydrantRows withTests(int count) {
        HydrantRows rows = withHydrants(2);
        for (int i = 0; i < count; i++) {
            rows.test(i % 2, 0, 600, 1_000, 200);
        }
        return rows;
    }

    private static void countsOfRound() {
        range("round's n", OUTSIDE, 0, 6, () -> waters(6), (rows, n) -> rows.round(stops(5, 4, 3, 2, 1, 0), n));
        // Without a single hydrant only the empty round is one: the others' hydrants are unknown.
        HydrantRows empty = new HydrantRows();
        Check.promise("round's n without hydrants");
        Check.answers(0, () -> empty.round(0L, 0));
        Check.refuses(UNKNOWN, () -> empty.round(0L, 1));
        Check.refuses(UNKNOWN, () -> empty.round(0L, 7));
        Check.refuses(OUTSIDE, () -> empty.round(0L, -1));
    }
}
