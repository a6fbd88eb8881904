import java.util.Random;

/** Mixed runs of 512 calls, the same at each start, whose every answer is compared with the model's. */
public final class ModelTest {
    private static final int RUNS = 600;
    /** What an object answers to later calls is free. */
    private static final int MOST_CALLS = 512;
    private static final int CALLS_OF_ROUND = 8;
    private static final int[] EXTREMES = {
        -1, 0, 1, Integer.MIN_VALUE, Integer.MAX_VALUE, 2, 3, 5, 6, 7, 11, 12, 19, 20, 39, 40, 99, 100,
        2_000, 2_001, 9_999, 10_000, 20_000, 20_001, 50_000, 50_001, -50_000, -50_001, 99_999, 100_000,
        200_000, 200_001};

    private final Random random;
    private final HydrantRows rows = new HydrantRows();
    private final Model model = new Model();
    /** Small ranges make the same hoses, days and pressures meet; wide ones reach the limits. */
    private final boolean wide;
    private final int eagerness;
    private int hydrants = 0;
    private int calls = 0;

    private ModelTest(int seed) {
        random = new Random(seed);
        wide = seed % 3 == 0;
        eagerness = seed % 4;
    }

    public static void main(String[] args) {
        for (int seed = 0; seed < RUNS; seed++) {
            ModelTest run = new ModelTest(seed);
            while (run.calls <= MOST_CALLS - CALLS_OF_ROUND) {
                Check.promise("run " + seed + ", call " + run.calls);
                run.oneCall();
            }
        }
        Check.end();
    }

    private int within(int low, int high) {
        if (random.nextInt(150) == 0) {
            return EXTREMES[random.nextInt(EXTREMES.length)];
        }
        int chance = random.nextInt(60);
        return chance == 0 ? low : chance == 1 ? high : low + random.nextInt(high - low + 1);
    }

    private int anyHydrant() {
        return within(0, random.nextInt(30) == 0 ? hydrants : Math.max(0, hydrants - 1));
    }

    private int coordinate() {
        return wide ? within(-50_000, 50_000) : within(-6, 6);
    }

    private int day() {
        return wide ? within(0, 99_999) : within(0, 400);
    }

    private int pressure() {
        return wide ? within(0, 2_000) : within(150, 250);
    }

    private int flowRate() {
        return wide ? within(0, 20_000) : within(0, 2_500);
    }

    private int place() {
        return random.nextInt(3) == 0 ? within(0, 40) : within(0, 5);
    }

    private void oneCall() {
        int kindOfCall = random.nextInt(8) < eagerness ? random.nextInt(4) : random.nextInt(24);
        switch (kindOfCall) {
            case 0, 4 -> tellHydrant();
            case 1, 2, 5 -> tellTest();
            case 3 -> tellWorks();
            case 6 -> tellLimit();
            case 7 -> tellAllowed();
            case 8 -> tellDefect();
            case 9, 10 -> tellSeason();
            case 11 -> askFlow();
            case 12 -> askSort();
            case 13 -> askUsable();
            case 14 -> askNear();
            case 15 -> askBoth();
            case 16, 17 -> askSupply();
            case 18, 19 -> askRound();
            case 20 -> askStop();
            case 21 -> askOverdue();
            case 22 -> askTestAt();
            default -> askHydrantAt();
        }
    }

    /** Answers what was due. */
    private String same(Check.Call ofModel, Check.Call ofRows) {
        calls++;
        String due = Check.outcome(ofModel);
        Check.compare(due, Check.outcome(ofRows));
        return due;
    }

    private void sameDeed(Check.Deed ofModel, Check.Deed ofRows) {
        calls++;
        Check.compare(Check.outcome(ofModel), Check.outcome(ofRows));
    }

    private void tellHydrant() {
        int x = coordinate();
        int y = coordinate();
        int main = wide ? within(0, 19) : within(0, 2);
        int kind = within(0, 2);
        String due = same(() -> model.hydrant(x, y, main, kind), () -> rows.hydrant(x, y, main, kind));
        if (!due.startsWith("throws")) {
            hydrants++;
        }
    }

    private void tellTest() {
        int hydrant = anyHydrant();
        int day = day();
        int rest = pressure();
        int left = switch (random.nextInt(6)) {
            case 0, 1 -> rest;
            case 2 -> pressure();
            default -> within(0, Math.max(1, rest % 2_001));
        };
        int flow = flowRate();
        same(() -> model.test(hydrant, day, rest, flow, left), () -> rows.test(hydrant, day, rest, flow, left));
    }

    private void tellWorks() {
        int hydrant = anyHydrant();
        int from = day();
        int to = random.nextInt(3) == 0 ? day() : from + within(0, 20);
        sameDeed(() -> model.works(hydrant, from, to), () -> rows.works(hydrant, from, to));
    }

    private void tellLimit() {
        int main = within(0, wide ? 19 : 2);
        int flow = flowRate();
        sameDeed(() -> model.limit(main, flow), () -> rows.limit(main, flow));
    }

    private void tellAllowed() {
        boolean on = random.nextBoolean();
        sameDeed(() -> model.allow(on), () -> rows.allow(on));
    }

    private void tellDefect() {
        int hydrant = anyHydrant();
        int grade = within(0, 2);
        sameDeed(() -> model.defect(hydrant, grade), () -> rows.defect(hydrant, grade));
    }

    private void tellSeason() {
        int hydrant = anyHydrant();
        int month = within(0, 11);
        boolean dry = random.nextInt(3) != 0;
        sameDeed(() -> model.season(hydrant, month, dry), () -> rows.season(hydrant, month, dry));
    }

    private void askFlow() {
        int hydrant = anyHydrant();
        int pressure = pressure();
        int what = within(0, 1);
        same(() -> model.flow(hydrant, pressure, what), () -> rows.flow(hydrant, pressure, what));
    }

    private void askSort() {
        int hydrant = anyHydrant();
        same(() -> model.sort(hydrant), () -> rows.sort(hydrant));
    }

    private void askUsable() {
        int hydrant = anyHydrant();
        int day = day();
        same(() -> model.usable(hydrant, day), () -> rows.usable(hydrant, day));
    }

    private void askNear() {
        int x = coordinate();
        int y = coordinate();
        int day = day();
        int i = place();
        same(() -> model.near(x, y, day, i), () -> rows.near(x, y, day, i));
    }

    private void askBoth() {
        int hydrant = anyHydrant();
        int other = anyHydrant();
        int pressure = pressure();
        same(() -> model.both(hydrant, other, pressure), () -> rows.both(hydrant, other, pressure));
    }

    private void askSupply() {
        int x = coordinate();
        int y = coordinate();
        int day = day();
        int pressure = pressure();
        int hose = wide ? within(0, 200_000) : within(0, 20);
        same(() -> model.supply(x, y, day, pressure, hose), () -> rows.supply(x, y, day, pressure, hose));
    }

    private void askRound() {
        int n = random.nextInt(20) == 0 ? within(-2, 12) : Math.min(within(0, 6), Math.max(1, hydrants));
        long told = random.nextInt(6) == 0 ? random.nextLong() : 0L;
        int first = random.nextInt(Math.max(1, hydrants));
        int step = 1 + random.nextInt(7);
        for (int i = 0; i < 6 && told >= 0 && hydrants > 0; i++) {
            told = told & ~(63L << 6 * i) | (long) ((first + i * step) % hydrants) << 6 * i;
        }
        long hydrantsTold = told;
        same(() -> model.round(hydrantsTold, n), () -> rows.round(hydrantsTold, n));
        for (int i = 1; i < CALLS_OF_ROUND; i++) {
            int at = i - 1;
            same(() -> model.stop(at), () -> rows.stop(at));
        }
    }

    private void askStop() {
        int i = within(0, 7);
        same(() -> model.stop(i), () -> rows.stop(i));
    }

    private void askOverdue() {
        int day = day();
        int days = wide ? within(0, 9_999) : within(0, 100);
        int i = place();
        same(() -> model.overdue(day, days, i), () -> rows.overdue(day, days, i));
    }

    private void askTestAt() {
        int i = within(0, 100);
        int what = within(0, 4);
        same(() -> model.testAt(i, what), () -> rows.testAt(i, what));
    }

    private void askHydrantAt() {
        int hydrant = anyHydrant();
        int what = within(0, 5);
        same(() -> model.hydrantAt(hydrant, what), () -> rows.hydrantAt(hydrant, what));
    }
}
