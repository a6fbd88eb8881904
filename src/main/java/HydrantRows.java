/** Hydrants and other waters of a fire brigade: what they give, when they are usable, and the ways to them. */
public final class HydrantRows {
    private static final int MOST_HYDRANTS = 40;
    private static final int MOST_TESTS = 100;
    private static final int MOST_WORKS = 3;
    private static final int MOST_STOPS = 6;
    private static final int MAINS = 20;
    private static final int KINDS = 3;
    private static final int MONTHS = 12;

    private static final int FARTHEST_PLACE = 50_000;
    private static final int LAST_DAY = 99_999;
    private static final int HIGHEST_PRESSURE = 2_000;
    private static final int HIGHEST_FLOW = 20_000;
    private static final int LONGEST_HOSE = 200_000;
    private static final int MOST_DAYS_AGO = 9_999;
    /** Six hydrants are at most seven longest hoses from the start and back to it. */
    private static final int BEYOND_ANY_ROUND = 7 * LONGEST_HOSE + 1;

    private static final int PRIVATE = 1;
    private static final int OTHER_WATER = 2;
    private static final int SEVERE = 2;

    private static final int DAYS_OF_YEAR = 360;
    private static final int DAYS_OF_MONTH = 30;
    private static final int CLASS_PRESSURE = 200;
    private static final int CLASS_STEP = 500;
    private static final int HIGHEST_CLASS = 3;
    private static final int STOP_BITS = 6;
    private static final long STOP_MASK = 63L;
    /** Euclid's steps: two ints never need more than 46. */
    private static final int MOST_DIVISIONS = 64;

    private final Hydrant[] hydrantRow = new Hydrant[MOST_HYDRANTS];
    private final Test[] testRow = new Test[MOST_TESTS];
    private final int[] limits = new int[MAINS];
    private final Ranking ranking = new Ranking();
    private final Walk walk = new Walk();
    private int hydrantCount = 0;
    private int testCount = 0;
    private boolean privateAllowed = false;

    public HydrantRows() {
        for (int main = 0; main < limits.length; main++) {
            limits[main] = HIGHEST_FLOW;
        }
    }

    public int hydrant(int x, int y, int main, int kind)
            throws IllegalArgumentException, IndexOutOfBoundsException, UnsupportedOperationException {
        needMain(main);
        if (kind < 0 || kind >= KINDS) {
            throw new IllegalArgumentException("no such kind");
        }
        needPlace(x, y);
        int number = hydrantCount;
        if (number < 0 || number >= hydrantRow.length) {
            throw new UnsupportedOperationException("no room for one more hydrant");
        }
        hydrantRow[number] = new Hydrant(number, x, y, main, kind);
        hydrantCount = number + 1;
        return number;
    }

    public void limit(int main, int flow) throws IllegalArgumentException, IndexOutOfBoundsException {
        needMain(main);
        needFlow(flow);
        limits[main] = flow;
    }

    public void allow(boolean on) {
        privateAllowed = on;
    }

    public int test(int hydrant, int day, int rest, int flow, int left)
            throws IllegalArgumentException, IndexOutOfBoundsException, IllegalStateException,
            UnsupportedOperationException {
        Hydrant tested = known(hydrant);
        needDay(day);
        needPressure(rest);
        needPressure(left);
        needFlow(flow);
        if (left > rest) {
            throw new IllegalStateException("more is left than at rest");
        }
        int number = testCount;
        if (number < 0 || number >= testRow.length) {
            throw new UnsupportedOperationException("no room for one more test");
        }
        Test told = new Test(number, hydrant, day, rest, flow, left);
        testRow[number] = told;
        testCount = number + 1;
        tested.take(told);
        return number;
    }

    public int flow(int hydrant, int pressure, int what)
            throws IllegalArgumentException, IndexOutOfBoundsException, IllegalStateException, ArithmeticException {
        Hydrant asked = known(hydrant);
        if (what < 0 || what > 1) {
            throw new IllegalArgumentException("no such what");
        }
        needPressure(pressure);
        Test counting = countingTest(asked);
        needTold(counting, pressure);
        int upper = counting.upperAt(pressure);
        int lower = counting.lowerAt(pressure);
        return (what == 0 ? upper : lower) / Math.max(1, commonDivisor(upper, lower));
    }

    public int sort(int hydrant) throws IllegalArgumentException, IllegalStateException, ArithmeticException {
        Test counting = countingTest(known(hydrant));
        needTold(counting, CLASS_PRESSURE);
        return Math.min(counting.wholeAt(CLASS_PRESSURE) / CLASS_STEP, HIGHEST_CLASS);
    }

    public void defect(int hydrant, int grade) throws IllegalArgumentException, IndexOutOfBoundsException {
        Hydrant asked = known(hydrant);
        if (grade < 0 || grade > SEVERE) {
            throw new IndexOutOfBoundsException("no such defect");
        }
        asked.defect = grade;
    }

    public void works(int hydrant, int from, int to)
            throws IllegalArgumentException, IndexOutOfBoundsException, IllegalStateException,
            UnsupportedOperationException {
        Hydrant asked = known(hydrant);
        needDay(from);
        needDay(to);
        if (to < from) {
            throw new IndexOutOfBoundsException("the second day is below the first");
        }
        if (asked.hasWorksWithin(from, to)) {
            throw new IllegalStateException("a day of these works is one of others");
        }
        if (!asked.addWorks(from, to)) {
            throw new UnsupportedOperationException("no room for more works");
        }
    }

    public void season(int hydrant, int month, boolean dry)
            throws IllegalArgumentException, IndexOutOfBoundsException, IllegalStateException {
        Hydrant asked = known(hydrant);
        if (month < 0 || month >= MONTHS) {
            throw new IndexOutOfBoundsException("no such month");
        }
        if (asked.kind != OTHER_WATER) {
            throw new IllegalStateException("it is no other water");
        }
        asked.setDry(month, dry);
    }

    public boolean usable(int hydrant, int day) throws IllegalArgumentException, IndexOutOfBoundsException {
        Hydrant asked = known(hydrant);
        needDay(day);
        return asked.isUsable(day, privateAllowed);
    }

    public int near(int x, int y, int day, int i) throws IndexOutOfBoundsException {
        needPlace(x, y);
        needDay(day);
        needNotBelowZero(i);
        ranking.clear();
        for (Hydrant each : hydrantRow) {
            if (each != null && each.isUsable(day, privateAllowed)) {
                ranking.insert(each.hoseFrom(x, y), each.number);
            }
        }
        return ranking.numberAt(i);
    }

    public int both(int hydrant, int other, int pressure)
            throws IllegalArgumentException, IndexOutOfBoundsException, IllegalStateException, ArithmeticException {
        Hydrant first = known(hydrant);
        Hydrant second = known(other);
        if (hydrant == other) {
            throw new IllegalArgumentException("the two hydrants are one");
        }
        needPressure(pressure);
        // Both are looked at for a test before either's flow: a missing test is refused first.
        Test firstTest = countingTest(first);
        Test secondTest = countingTest(second);
        needTold(firstTest, pressure);
        needTold(secondTest, pressure);
        int sum = firstTest.wholeAt(pressure) + secondTest.wholeAt(pressure);
        return first.main == second.main ? Math.min(sum * 3 / 4, limitOf(first.main)) : sum;
    }

    public int supply(int x, int y, int day, int pressure, int hose) throws IndexOutOfBoundsException {
        needPlace(x, y);
        needDay(day);
        needPressure(pressure);
        if (hose < 0 || hose > LONGEST_HOSE) {
            throw new IndexOutOfBoundsException("no such hose");
        }
        int sum = 0;
        for (int main = 0; main < limits.length; main++) {
            sum += Math.min(supplyOfMain(main, x, y, day, pressure, hose), limits[main]);
        }
        return sum;
    }

    public int round(long hydrants, int n) throws IllegalArgumentException, IndexOutOfBoundsException {
        int told = Math.min(n, MOST_STOPS);
        for (int i = 0; i < told; i++) {
            known(toldStop(hydrants, i));
        }
        if (n < 0 || n > MOST_STOPS) {
            throw new IndexOutOfBoundsException("no such number of hydrants");
        }
        long chosen = setOfStops(hydrants, told);
        walk.clear();
        // In the order of numbers, so that of equally long orders the walk meets the first one first.
        for (Hydrant each : hydrantRow) {
            if (each != null && (chosen >>> each.number & 1L) != 0L) {
                walk.choose(each);
            }
        }
        return walk.leastMetres();
    }

    public int stop(int i) throws IndexOutOfBoundsException {
        needNotBelowZero(i);
        return walk.stopAt(i);
    }

    public int overdue(int day, int days, int i) throws IndexOutOfBoundsException {
        needDay(day);
        if (days < 0 || days > MOST_DAYS_AGO) {
            throw new IndexOutOfBoundsException("no such number of days");
        }
        needNotBelowZero(i);
        ranking.clear();
        for (Hydrant each : hydrantRow) {
            if (each != null && each.isOverdue(day, days)) {
                ranking.insert(each.overdueWeight(), each.number);
            }
        }
        return ranking.numberAt(i);
    }

    public int testAt(int i, int what) throws IllegalArgumentException {
        Test asked = i >= 0 && i < testRow.length ? testRow[i] : null;
        if (asked == null) {
            throw new IllegalArgumentException("no such test");
        }
        switch (what) {
            case 0: return asked.hydrant;
            case 1: return asked.day;
            case 2: return asked.rest;
            case 3: return asked.flow;
            case 4: return asked.left;
            default: throw new IllegalArgumentException("no such what");
        }
    }

    public int hydrantAt(int hydrant, int what) throws IllegalArgumentException {
        Hydrant asked = known(hydrant);
        switch (what) {
            case 0: return asked.main;
            case 1: return asked.kind;
            case 2: return asked.defect;
            case 3: return asked.countingNumber();
            case 4: return asked.testCount;
            case 5: return asked.worksCount;
            default: throw new IllegalArgumentException("no such what");
        }
    }

    private Hydrant known(int hydrant) {
        Hydrant found = hydrant >= 0 && hydrant < hydrantRow.length ? hydrantRow[hydrant] : null;
        if (found == null) {
            throw new IllegalArgumentException("no such hydrant");
        }
        return found;
    }

    private static Test countingTest(Hydrant hydrant) {
        Test counting = hydrant.counting;
        if (counting == null) {
            throw new IllegalStateException("it has no test");
        }
        return counting;
    }

    private static void needTold(Test test, int pressure) {
        if (!test.canTell(pressure)) {
            throw new ArithmeticException("the flow can't be told");
        }
    }

    private void needMain(int main) {
        if (main < 0 || main >= limits.length) {
            throw new IllegalArgumentException("no such main");
        }
    }

    private static void needPlace(int x, int y) {
        if (x < -FARTHEST_PLACE || x > FARTHEST_PLACE || y < -FARTHEST_PLACE || y > FARTHEST_PLACE) {
            throw new IndexOutOfBoundsException("no such place");
        }
    }

    private static void needDay(int day) {
        if (day < 0 || day > LAST_DAY) {
            throw new IndexOutOfBoundsException("no such day");
        }
    }

    private static void needPressure(int pressure) {
        if (pressure < 0 || pressure > HIGHEST_PRESSURE) {
            throw new IndexOutOfBoundsException("no such pressure");
        }
    }

    private static void needFlow(int flow) {
        if (flow < 0 || flow > HIGHEST_FLOW) {
            throw new IndexOutOfBoundsException("no such flow");
        }
    }

    private static void needNotBelowZero(int i) {
        if (i < 0) {
            throw new IndexOutOfBoundsException("the place in the row is below 0");
        }
    }

    private int limitOf(int main) {
        return main >= 0 && main < limits.length ? limits[main] : 0;
    }

    /** An int holds it: 40 hydrants give at most 40,000,000 each. */
    private int supplyOfMain(int main, int x, int y, int day, int pressure, int hose) {
        int sum = 0;
        for (Hydrant each : hydrantRow) {
            if (each != null && each.main == main && each.hoseFrom(x, y) <= hose
                    && each.isUsable(day, privateAllowed)) {
                sum += each.givenAt(pressure);
            }
        }
        return sum;
    }

    private static int toldStop(long hydrants, int i) {
        return (int) (hydrants >>> STOP_BITS * i & STOP_MASK);
    }

    /** The told hydrants as bits, one a number. */
    private static long setOfStops(long hydrants, int told) {
        long set = 0L;
        for (int i = 0; i < told; i++) {
            long bit = 1L << toldStop(hydrants, i);
            if ((set & bit) != 0L) {
                throw new IndexOutOfBoundsException("a hydrant is told twice");
            }
            set |= bit;
        }
        return set;
    }

    private static int commonDivisor(int a, int b) {
        int greater = a;
        int smaller = b;
        for (int i = 0; i < MOST_DIVISIONS && smaller != 0; i++) {
            int remainder = greater % smaller;
            greater = smaller;
            smaller = remainder;
        }
        return greater;
    }

    private static int hoseLength(int x, int y, int otherX, int otherY) {
        return Math.abs(x - otherX) + Math.abs(y - otherY);
    }

    /** A test of a hydrant: two points of a straight curve of pressure and flow. */
    private static final class Test {
        final int number;
        final int hydrant;
        final int day;
        final int rest;
        final int flow;
        final int left;

        Test(int number, int hydrant, int day, int rest, int flow, int left) {
            this.number = number;
            this.hydrant = hydrant;
            this.day = day;
            this.rest = rest;
            this.flow = flow;
            this.left = left;
        }

        boolean canTell(int pressure) {
            return lowerAt(pressure) > 0;
        }

        int upperAt(int pressure) {
            return pressure >= rest ? 0 : flow * (rest - pressure);
        }

        int lowerAt(int pressure) {
            return pressure >= rest ? 1 : rest - left;
        }

        int wholeAt(int pressure) {
            int lower = lowerAt(pressure);
            return lower > 0 ? upperAt(pressure) / lower : 0;
        }
    }

    /** Works from a day to another one, both themselves. */
    private static final class Works {
        final int from;
        final int to;

        Works(int from, int to) {
            this.from = from;
            this.to = to;
        }

        boolean meet(int first, int last) {
            return first <= to && from <= last;
        }
    }

    /** A hydrant or an other water, with what has been told of it. */
    private static final class Hydrant {
        final int number;
        final int x;
        final int y;
        final int main;
        final int kind;
        final Works[] worksRow = new Works[MOST_WORKS];
        int worksCount = 0;
        int defect = 0;
        /** One bit a month. */
        int dryMonths = 0;
        int testCount = 0;
        /** Null until there is a test. */
        Test counting = null;

        Hydrant(int number, int x, int y, int main, int kind) {
            this.number = number;
            this.x = x;
            this.y = y;
            this.main = main;
            this.kind = kind;
        }

        /** Of one day the test told last counts, so an equal day is enough. */
        void take(Test told) {
            testCount++;
            if (counting == null || told.day >= counting.day) {
                counting = told;
            }
        }

        int countingNumber() {
            return counting == null ? -1 : counting.number;
        }

        boolean hasWorksWithin(int first, int last) {
            for (Works each : worksRow) {
                if (each != null && each.meet(first, last)) {
                    return true;
                }
            }
            return false;
        }

        /** Whether there was room. */
        boolean addWorks(int from, int to) {
            if (worksCount < 0 || worksCount >= worksRow.length) {
                return false;
            }
            worksRow[worksCount] = new Works(from, to);
            worksCount++;
            return true;
        }

        void setDry(int month, boolean dry) {
            int bit = 1 << month;
            dryMonths = dry ? dryMonths | bit : dryMonths & ~bit;
        }

        boolean isDry(int day) {
            int month = day % DAYS_OF_YEAR / DAYS_OF_MONTH;
            return (dryMonths >>> month & 1) != 0;
        }

        /** Only an other water can have dry months, so its kind need not be asked here. */
        boolean isUsable(int day, boolean privateAllowed) {
            return defect != SEVERE && (kind != PRIVATE || privateAllowed)
                    && !isDry(day) && !hasWorksWithin(day, day);
        }

        int hoseFrom(int placeX, int placeY) {
            return hoseLength(x, y, placeX, placeY);
        }

        /** Nothing where the flow is not known: such a hydrant adds nothing to a supply. */
        int givenAt(int pressure) {
            return counting == null ? 0 : counting.wholeAt(pressure);
        }

        /** A test to come is a negative number of days ago, so it is never overdue. */
        boolean isOverdue(int day, int days) {
            return counting == null || day - counting.day > days;
        }

        /** The day is raised by one to leave 0 to those without a test, who come first. */
        int overdueWeight() {
            return counting == null ? 0 : counting.day + 1;
        }
    }

    /** Hydrants by a weight, of the same by numbers; one row that every call uses again. */
    private static final class Ranking {
        /** Weight and number in one key, so that one comparison settles both. */
        private final int[] keys = new int[MOST_HYDRANTS];
        private int size = 0;

        void clear() {
            size = 0;
        }

        void insert(int weight, int number) {
            if (size < 0 || size >= keys.length) {
                return;
            }
            int key = weight * MOST_HYDRANTS + number;
            int at = size;
            for (; at > 0 && keys[at - 1] > key; at--) {
                keys[at] = keys[at - 1];
            }
            keys[at] = key;
            size++;
        }

        int numberAt(int i) {
            return i >= 0 && i < size && i < keys.length ? keys[i] % MOST_HYDRANTS : -1;
        }
    }

    /** The latest round: its hydrants, and the order of them that is the least way. */
    private static final class Walk {
        private final Hydrant[] chosen = new Hydrant[MOST_STOPS];
        private final int[] way = new int[MOST_STOPS];
        private final int[] bestWay = new int[MOST_STOPS];
        private int count = 0;
        private int least = 0;

        void clear() {
            for (int i = 0; i < chosen.length; i++) {
                chosen[i] = null;
            }
            count = 0;
        }

        void choose(Hydrant hydrant) {
            if (count >= 0 && count < chosen.length) {
                chosen[count] = hydrant;
                count++;
            }
        }

        int leastMetres() {
            least = BEYOND_ANY_ROUND;
            goOn(0, 0, 0, 0, 0);
            return least;
        }

        int stopAt(int i) {
            return i >= 0 && i < count && i < bestWay.length ? bestWay[i] : -1;
        }

        /** Goes on from the place x, y in all orders of the hydrants that are not among the gone (bits). */
        private void goOn(int depth, int gone, int x, int y, int metres) {
            // No way on is shorter than straight home; an equal one comes later by numbers.
            int straightHome = metres + hoseLength(x, y, 0, 0);
            if (straightHome >= least) {
                return;
            }
            if (depth >= count || depth >= MOST_STOPS) {
                keepWay(straightHome);
                return;
            }
            for (int i = 0; i < chosen.length; i++) {
                Hydrant next = chosen[i];
                if (next != null && (gone >>> i & 1) == 0) {
                    way[depth] = next.number;
                    goOn(depth + 1, gone | 1 << i, next.x, next.y, metres + next.hoseFrom(x, y));
                }
            }
        }

        private void keepWay(int metres) {
            least = metres;
            for (int i = 0; i < MOST_STOPS; i++) {
                bestWay[i] = way[i];
            }
        }
    }
}
