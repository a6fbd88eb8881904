import java.math.BigInteger;
import java.util.ArrayList;
import java.util.Arrays;
import java.util.Comparator;
import java.util.List;
import java.util.TreeMap;

/** A second HydrantRows, written from the document with the library's help and without care for speed or room. */
final class Model {
    private static final class Water {
        int x;
        int y;
        int main;
        int kind;
        int defect;
        boolean[] dry = new boolean[12];
        List<int[]> works = new ArrayList<>();
    }

    private final List<Water> waters = new ArrayList<>();
    private final List<int[]> tests = new ArrayList<>();
    private final int[] limits = new int[20];
    private boolean allowed = false;
    private List<Integer> latestRound = List.of();

    Model() {
        Arrays.fill(limits, 20_000);
    }

    private static void unknownIf(boolean so) {
        if (so) {
            throw new IllegalArgumentException();
        }
    }

    private static void outside(long value, long low, long high) {
        if (value < low || value > high) {
            throw new IndexOutOfBoundsException();
        }
    }

    private static void stateIf(boolean so) {
        if (so) {
            throw new IllegalStateException();
        }
    }

    private static void noRoomIf(boolean so) {
        if (so) {
            throw new UnsupportedOperationException();
        }
    }

    private Water water(int number) {
        unknownIf(number < 0 || number >= waters.size());
        return waters.get(number);
    }

    private static void place(int x, int y) {
        outside(x, -50_000, 50_000);
        outside(y, -50_000, 50_000);
    }

    int hydrant(int x, int y, int main, int kind) {
        unknownIf(main < 0 || main > 19 || kind < 0 || kind > 2);
        place(x, y);
        noRoomIf(waters.size() == 40);
        Water water = new Water();
        water.x = x;
        water.y = y;
        water.main = main;
        water.kind = kind;
        waters.add(water);
        return waters.size() - 1;
    }

    void limit(int main, int flow) {
        unknownIf(main < 0 || main > 19);
        outside(flow, 0, 20_000);
        limits[main] = flow;
    }

    void allow(boolean on) {
        allowed = on;
    }

    int test(int hydrant, int day, int rest, int flow, int left) {
        water(hydrant);
        outside(day, 0, 99_999);
        outside(rest, 0, 2_000);
        outside(flow, 0, 20_000);
        outside(left, 0, 2_000);
        stateIf(left > rest);
        noRoomIf(tests.size() == 100);
        tests.add(new int[] {hydrant, day, rest, flow, left});
        return tests.size() - 1;
    }

    /** The number of the test that counts, or -1. */
    private int counting(int hydrant) {
        int best = -1;
        for (int i = 0; i < tests.size(); i++) {
            boolean its = tests.get(i)[0] == hydrant;
            if (its && (best < 0 || tests.get(i)[1] >= tests.get(best)[1])) {
                best = i;
            }
        }
        return best;
    }

    /** The flow as a fraction in lowest terms, or null where it can't be told. */
    private BigInteger[] fraction(int hydrant, int pressure) {
        int[] test = tests.get(counting(hydrant));
        if (pressure >= test[2]) {
            return new BigInteger[] {BigInteger.ZERO, BigInteger.ONE};
        }
        if (test[2] == test[4]) {
            return null;
        }
        BigInteger upper = BigInteger.valueOf(test[3]).multiply(BigInteger.valueOf(test[2] - pressure));
        BigInteger lower = BigInteger.valueOf(test[2] - test[4]);
        BigInteger common = upper.gcd(lower);
        return new BigInteger[] {upper.divide(common), lower.divide(common)};
    }

    private BigInteger[] toldFraction(int hydrant, int pressure) {
        BigInteger[] fraction = fraction(hydrant, pressure);
        if (fraction == null) {
            throw new ArithmeticException();
        }
        return fraction;
    }

    private static int whole(BigInteger[] fraction) {
        return fraction[0].divide(fraction[1]).intValueExact();
    }

    int flow(int hydrant, int pressure, int what) {
        water(hydrant);
        unknownIf(what != 0 && what != 1);
        outside(pressure, 0, 2_000);
        stateIf(counting(hydrant) < 0);
        return toldFraction(hydrant, pressure)[what].intValueExact();
    }

    int sort(int hydrant) {
        water(hydrant);
        stateIf(counting(hydrant) < 0);
        int flow = whole(toldFraction(hydrant, 200));
        return flow < 500 ? 0 : flow < 1_000 ? 1 : flow < 1_500 ? 2 : 3;
    }

    void defect(int hydrant, int grade) {
        Water water = water(hydrant);
        outside(grade, 0, 2);
        water.defect = grade;
    }

    void works(int hydrant, int from, int to) {
        Water water = water(hydrant);
        outside(from, 0, 99_999);
        outside(to, from, 99_999);
        for (int[] other : water.works) {
            stateIf(Math.max(from, other[0]) <= Math.min(to, other[1]));
        }
        noRoomIf(water.works.size() == 3);
        water.works.add(new int[] {from, to});
    }

    void season(int hydrant, int month, boolean dry) {
        Water water = water(hydrant);
        outside(month, 0, 11);
        stateIf(water.kind != 2);
        water.dry[month] = dry;
    }

    boolean usable(int hydrant, int day) {
        Water water = water(hydrant);
        outside(day, 0, 99_999);
        if (water.defect == 2 || water.kind == 1 && !allowed) {
            return false;
        }
        if (water.kind == 2 && water.dry[day % 360 / 30]) {
            return false;
        }
        return water.works.stream().noneMatch(works -> works[0] <= day && day <= works[1]);
    }

    private int hose(int x, int y, int hydrant) {
        Water water = waters.get(hydrant);
        return Math.abs(water.x - x) + Math.abs(water.y - y);
    }

    private static int at(List<Integer> row, int i) {
        return i < row.size() ? row.get(i) : -1;
    }

    int near(int x, int y, int day, int i) {
        place(x, y);
        outside(day, 0, 99_999);
        outside(i, 0, Integer.MAX_VALUE);
        List<Integer> row = new ArrayList<>();
        for (int h = 0; h < waters.size(); h++) {
            if (usable(h, day)) {
                row.add(h);
            }
        }
        row.sort(Comparator.comparingInt(h -> hose(x, y, h)));
        return at(row, i);
    }

    int both(int hydrant, int other, int pressure) {
        Water first = water(hydrant);
        Water second = water(other);
        unknownIf(first == second);
        outside(pressure, 0, 2_000);
        stateIf(counting(hydrant) < 0 || counting(other) < 0);
        int sum = whole(toldFraction(hydrant, pressure)) + whole(toldFraction(other, pressure));
        return first.main != second.main ? sum : Math.min(Math.floorDiv(3 * sum, 4), limits[first.main]);
    }

    int supply(int x, int y, int day, int pressure, int hose) {
        place(x, y);
        outside(day, 0, 99_999);
        outside(pressure, 0, 2_000);
        outside(hose, 0, 200_000);
        TreeMap<Integer, Long> mains = new TreeMap<>();
        for (int h = 0; h < waters.size(); h++) {
            boolean counts = usable(h, day) && hose(x, y, h) <= hose && counting(h) >= 0;
            if (counts && fraction(h, pressure) != null) {
                mains.merge(waters.get(h).main, (long) whole(fraction(h, pressure)), Long::sum);
            }
        }
        long sum = 0;
        for (int main : mains.keySet()) {
            sum += Math.min(mains.get(main), limits[main]);
        }
        return Math.toIntExact(sum);
    }

    int round(long hydrants, int n) {
        List<Integer> told = new ArrayList<>();
        for (int i = 0; i < n && i < 6; i++) {
            told.add((int) Math.floorMod(Math.floorDiv(hydrants, 1L << 6 * i), 64L));
            water(told.get(i));
        }
        outside(n, 0, 6);
        outside(told.stream().distinct().count(), n, n);
        List<List<Integer>> orders = new ArrayList<>();
        addOrders(new ArrayList<>(), told, orders);
        orders.sort(Comparator.<List<Integer>>comparingInt(this::metres).thenComparing(Model::byNumbers));
        latestRound = orders.get(0);
        return metres(latestRound);
    }

    private static void addOrders(List<Integer> begun, List<Integer> rest, List<List<Integer>> orders) {
        if (rest.isEmpty()) {
            orders.add(begun);
        }
        for (Integer next : rest) {
            List<Integer> longer = new ArrayList<>(begun);
            longer.add(next);
            List<Integer> shorter = new ArrayList<>(rest);
            shorter.remove(next);
            addOrders(longer, shorter, orders);
        }
    }

    private static int byNumbers(List<Integer> one, List<Integer> other) {
        for (int i = 0; i < one.size(); i++) {
            if (!one.get(i).equals(other.get(i))) {
                return one.get(i) - other.get(i);
            }
        }
        return 0;
    }

    private int metres(List<Integer> order) {
        int metres = 0;
        int x = 0;
        int y = 0;
        for (int h : order) {
            metres += hose(x, y, h);
            x = waters.get(h).x;
            y = waters.get(h).y;
        }
        return metres + Math.abs(x) + Math.abs(y);
    }

    int stop(int i) {
        outside(i, 0, Integer.MAX_VALUE);
        return at(latestRound, i);
    }

    int overdue(int day, int days, int i) {
        outside(day, 0, 99_999);
        outside(days, 0, 9_999);
        outside(i, 0, Integer.MAX_VALUE);
        List<Integer> row = new ArrayList<>();
        for (int h = 0; h < waters.size(); h++) {
            if (counting(h) < 0 || tests.get(counting(h))[1] < day - days) {
                row.add(h);
            }
        }
        row.sort(Comparator.comparingInt(h -> counting(h) < 0 ? -1 : tests.get(counting(h))[1]));
        return at(row, i);
    }

    int testAt(int i, int what) {
        unknownIf(i < 0 || i >= tests.size() || what < 0 || what > 4);
        return tests.get(i)[what];
    }

    int hydrantAt(int hydrant, int what) {
        Water water = water(hydrant);
        unknownIf(what < 0 || what > 5);
        int count = (int) tests.stream().filter(test -> test[0] == hydrant).count();
        return List.of(water.main, water.kind, water.defect, counting(hydrant), count, water.works.size()).get(what);
    }
}
