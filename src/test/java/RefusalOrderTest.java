import java.util.List;

/** Calls that are refused for several reasons at once: the first of the document's order is the one thrown. */
public final class RefusalOrderTest extends Examples {
    private record Fault(String name, Class<? extends RuntimeException> refusal) {
    }

    private interface Faulty {
        /** What the faults ask for is told to a new object here; the call that is looked at is answered. */
        Check.Deed prepared(boolean[] has);
    }

    private static final List<Class<? extends RuntimeException>> ORDER =
        List.of(UNKNOWN, OUTSIDE, STATE, NO_ROOM, NOT_TOLD);
    private static final int TESTED = 0;
    private static final int OTHER_TESTED = 1;
    private static final int FLAT = 2;
    private static final int OTHER_FLAT = 3;
    private static final int UNTESTED = 4;
    private static final int OTHER_UNTESTED = 5;
    private static final int NONE = 6;

    public static void main(String[] args) {
        hydrant();
        limit();
        test();
        flow();
        sort();
        defect();
        works();
        season();
        usable();
        near();
        both();
        supply();
        round();
        roundBelowZero();
        overdue();
        testAt();
        hydrantAt();
        Check.end();
    }

    private static Fault unknown(String name) {
        return new Fault(name, UNKNOWN);
    }

    private static Fault outside(String name) {
        return new Fault(name, OUTSIDE);
    }

    private static Fault state(String name) {
        return new Fault(name, STATE);
    }

    private static Fault noRoom(String name) {
        return new Fault(name, NO_ROOM);
    }

    private static Fault notTold(String name) {
        return new Fault(name, NOT_TOLD);
    }

    /** The call without a fault, with each one, and with all that can be at once. */
    private static void everySubset(String call, Faulty faulty, Fault... faults) {
        for (int set = 0; set < 1 << faults.length; set++) {
            boolean[] has = new boolean[faults.length];
            StringBuilder name = new StringBuilder(call);
            int first = ORDER.size();
            for (int i = 0; i < faults.length; i++) {
                has[i] = (set >> i & 1) != 0;
                if (has[i]) {
                    name.append(", ").append(faults[i].name());
                    first = Math.min(first, ORDER.indexOf(faults[i].refusal()));
                }
            }
            Check.promise(name.toString());
            Check.Deed deed = faulty.prepared(has);
            if (set == 0) {
                Check.done(deed);
            } else {
                Check.refusesDeed(ORDER.get(first), deed);
            }
        }
    }

    /** Hydrants with a test, with one that can't be told below 600, and without one. */
    private static HydrantRows tested() {
        HydrantRows rows = withHydrants(NONE);
        rows.test(TESTED, 0, 600, 1_000, 200);
        rows.test(OTHER_TESTED, 0, 600, 1_000, 200);
        rows.test(FLAT, 0, 600, 1_000, 600);
        rows.test(OTHER_FLAT, 0, 600, 1_000, 600);
        return rows;
    }

    private static void hydrant() {
        everySubset("hydrant", has -> {
            HydrantRows rows = withHydrants(has[4] ? 40 : 39);
            return () -> rows.hydrant(has[2] ? 50_001 : 50_000, has[3] ? -50_001 : -50_000,
                has[0] ? 20 : 19, has[1] ? 3 : 2);
        }, unknown("no such main"), unknown("no such kind"), outside("x"), outside("y"), noRoom("there are 40"));
    }

    private static void limit() {
        everySubset("limit", has -> {
            HydrantRows rows = new HydrantRows();
            return () -> rows.limit(has[0] ? 20 : 19, has[1] ? 20_001 : 20_000);
        }, unknown("no such main"), outside("it is no flow"));
    }

    private static void test() {
        everySubset("test", has -> {
            HydrantRows rows = withHydrants(1);
            for (int i = 0; i < (has[6] ? 100 : 99); i++) {
                rows.test(0, 0, 0, 0, 0);
            }
            int rest = has[2] ? 2_001 : 500;
            int left = has[4] ? -1 : has[5] ? 501 : 500;
            return () -> rows.test(has[0] ? 1 : 0, has[1] ? 100_000 : 99_999, rest, has[3] ? 20_001 : 20_000, left);
        }, unknown("no such hydrant"), outside("day"), outside("rest"), outside("flow"), outside("left"),
            // More is left than at rest only where both are pressures; the rows above refuse the others.
            state("more is left than at rest"), noRoom("there are 100"));
    }

    private static int flawed(boolean unknown, boolean untested, boolean flat) {
        return unknown ? NONE : untested ? UNTESTED : flat ? FLAT : TESTED;
    }

    private static int flawedOther(boolean unknown, boolean untested, boolean flat) {
        return unknown ? NONE : untested ? OTHER_UNTESTED : flat ? OTHER_FLAT : OTHER_TESTED;
    }

    private static void flow() {
        everySubset("flow", has -> {
            HydrantRows rows = tested();
            int hydrant = flawed(has[0], has[3], has[4]);
            return () -> rows.flow(hydrant, has[2] ? -1 : 0, has[1] ? 2 : 1);
        }, unknown("no such hydrant"), unknown("no such what"), outside("the pressure"), state("it has no test"),
            notTold("it can't be told"));
    }

    private static void sort() {
        everySubset("sort", has -> {
            HydrantRows rows = tested();
            int hydrant = flawed(has[0], has[1], has[2]);
            return () -> rows.sort(hydrant);
        }, unknown("no such hydrant"), state("it has no test"), notTold("it can't be told"));
    }

    private static void defect() {
        everySubset("defect", has -> {
            HydrantRows rows = withHydrants(1);
            return () -> rows.defect(has[0] ? 1 : 0, has[1] ? 3 : 2);
        }, unknown("no such hydrant"), outside("no such defect"));
    }

    private static void works() {
        everySubset("works", has -> {
            HydrantRows rows = withHydrants(1);
            rows.works(0, 50, 60);
            rows.works(0, 70, 80);
            if (has[5]) {
                rows.works(0, 90, 99);
            }
            int from = has[1] ? -1 : has[4] ? 60 : 61;
            int to = has[2] ? 100_000 : has[3] ? 59 : 69;
            return () -> rows.works(has[0] ? 1 : 0, from, to);
        }, unknown("no such hydrant"), outside("the first day"), outside("the second day"),
            // With the first day -1 the second one is not below it, but then that day refuses the call.
            outside("the second day below the first"), state("a day of them is one of others"),
            noRoom("there are 3"));
    }

    private static void season() {
        everySubset("season", has -> {
            HydrantRows rows = new HydrantRows();
            rows.hydrant(0, 0, 0, has[2] ? 0 : 2);
            return () -> rows.season(has[0] ? 1 : 0, has[1] ? 12 : 11, true);
        }, unknown("no such hydrant"), outside("no such month"), state("it is no other water"));
    }

    private static void usable() {
        everySubset("usable", has -> {
            HydrantRows rows = withHydrants(1);
            return () -> rows.usable(has[0] ? 1 : 0, has[1] ? 100_000 : 99_999);
        }, unknown("no such hydrant"), outside("the day"));
    }

    private static void near() {
        everySubset("near", has -> {
            HydrantRows rows = withHydrants(1);
            return () -> rows.near(has[0] ? 50_001 : 50_000, has[1] ? -50_001 : -50_000,
                has[2] ? 100_000 : 99_999, has[3] ? -1 : 0);
        }, outside("x"), outside("y"), outside("the day"), outside("i is below 0"));
    }

    private static void both() {
        everySubset("both", has -> {
            HydrantRows rows = tested();
            int hydrant = flawed(has[0], has[4], has[6]);
            int other = has[2] ? hydrant : flawedOther(has[1], has[5], has[7]);
            return () -> rows.both(hydrant, other, has[3] ? 2_001 : 0);
        }, unknown("no such hydrant"), unknown("no such other"), unknown("they are one"), outside("the pressure"),
            state("the first has no test"), state("the other has no test"),
            notTold("the first can't be told"), notTold("the other can't be told"));
    }

    private static void supply() {
        everySubset("supply", has -> {
            HydrantRows rows = tested();
            return () -> rows.supply(has[0] ? -50_001 : -50_000, has[1] ? 50_001 : 50_000, has[2] ? -1 : 0,
                has[3] ? 2_001 : 2_000, has[4] ? 200_001 : 200_000);
        }, outside("x"), outside("y"), outside("the day"), outside("the pressure"), outside("the hose"));
    }

    private static void round() {
        everySubset("round", has -> {
            HydrantRows rows = withHydrants(6);
            long told = stops(has[0] ? 6 : 0, 1, has[3] ? 1 : 2, 3, 4, has[1] ? 63 : 5);
            return () -> rows.round(told, has[2] ? 7 : 6);
        }, unknown("the first is none"), unknown("the sixth is none"), outside("n is 7"), outside("one is told twice"));
    }

    /** Of less than no hydrants none is unknown and none is told twice. */
    private static void roundBelowZero() {
        Check.promise("round, n below 0");
        HydrantRows rows = withHydrants(6);
        Check.refuses(OUTSIDE, () -> rows.round(stops(63, 63), -1));
        Check.refuses(OUTSIDE, () -> rows.round(stops(63, 63), Integer.MIN_VALUE));
    }

    private static void overdue() {
        everySubset("overdue", has -> {
            HydrantRows rows = withHydrants(1);
            return () -> rows.overdue(has[0] ? 100_000 : 99_999, has[1] ? 10_000 : 9_999, has[2] ? -1 : 0);
        }, outside("the day"), outside("the days"), outside("i is below 0"));
    }

    private static void testAt() {
        everySubset("testAt", has -> {
            HydrantRows rows = tested();
            return () -> rows.testAt(has[0] ? 4 : 3, has[1] ? 5 : 4);
        }, unknown("there is none such"), unknown("no such what"));
    }

    private static void hydrantAt() {
        everySubset("hydrantAt", has -> {
            HydrantRows rows = tested();
            return () -> rows.hydrantAt(has[0] ? NONE : TESTED, has[1] ? 6 : 5);
        }, unknown("no such hydrant"), unknown("no such what"));
    }
}
