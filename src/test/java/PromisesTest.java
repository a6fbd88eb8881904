/** Each promise by examples worked out by hand: ordinary inputs, the edges that the document names, wrong inputs. */
public final class PromisesTest extends Examples {
    private static final int[] NO_INDEX = {-1, Integer.MIN_VALUE};
    private static final int[] NO_DAY = {-1, 100_000, Integer.MIN_VALUE, Integer.MAX_VALUE};
    private static final int[] NO_PLACE = {-50_001, 50_001, Integer.MIN_VALUE, Integer.MAX_VALUE};
    private static final int[] NO_PRESSURE = {-1, 2_001, Integer.MIN_VALUE, Integer.MAX_VALUE};
    private static final int[] NO_FLOW = {-1, 20_001, Integer.MIN_VALUE, Integer.MAX_VALUE};

    public static void main(String[] args) {
        newObject();
        hydrant();
        hydrantRefusals();
        limit();
        allow();
        test();
        testRefusals();
        flow();
        flowRefusals();
        sort();
        defect();
        works();
        worksRefusals();
        season();
        usable();
        near();
        nearRefusals();
        both();
        bothOnEachMain();
        bothRefusals();
        supply();
        supplyOfUsable();
        supplyRefusals();
        round();
        roundOrders();
        roundRefusals();
        stop();
        overdue();
        overdueRefusals();
        testAt();
        hydrantAt();
        Check.end();
    }

    private static void newObject() {
        Check.promise("1 new object");
        HydrantRows rows = new HydrantRows();
        Check.refuses(UNKNOWN, () -> rows.hydrantAt(0, 0));
        Check.refuses(UNKNOWN, () -> rows.testAt(0, 0));
        Check.answers(-1, () -> rows.near(0, 0, 0, 0));
        Check.answers(-1, () -> rows.overdue(0, 0, 0));
        Check.answers(0, () -> rows.supply(0, 0, 0, 0, 200_000));
        Check.answers(-1, () -> rows.stop(0));
        Check.answers(0, () -> rows.round(0L, 0));
        rows.hydrant(0, 0, 0, 1);
        Check.answers(false, () -> rows.usable(0, 0));
        HydrantRows other = new HydrantRows();
        Check.refuses(UNKNOWN, () -> other.usable(0, 0));
    }

    private static void hydrant() {
        Check.promise("2 hydrant");
        HydrantRows rows = new HydrantRows();
        Check.answers(0, () -> rows.hydrant(-50_000, 50_000, 0, 0));
        Check.answers(1, () -> rows.hydrant(50_000, -50_000, 19, 2));
        Check.answers(2, () -> rows.hydrant(50_000, -50_000, 19, 1));
        Check.answers(19, () -> rows.hydrantAt(1, 0));
        Check.answers(2, () -> rows.hydrantAt(1, 1));
        Check.answers(1, () -> rows.hydrantAt(2, 1));
        for (int number = 3; number < 40; number++) {
            int due = number;
            Check.answers(due, () -> rows.hydrant(due, due, 5, 0));
        }
        Check.refuses(NO_ROOM, () -> rows.hydrant(0, 0, 0, 0));
        Check.refuses(UNKNOWN, () -> rows.hydrant(0, 0, 20, 0));
        Check.refuses(OUTSIDE, () -> rows.hydrant(50_001, 0, 0, 0));
        Check.refuses(UNKNOWN, () -> rows.hydrantAt(40, 0));
        Check.answers(5, () -> rows.hydrantAt(39, 0));
    }

    private static void hydrantRefusals() {
        Check.promise("2 hydrant");
        HydrantRows rows = new HydrantRows();
        for (int main : new int[] {-1, 20, Integer.MIN_VALUE, Integer.MAX_VALUE}) {
            Check.refuses(UNKNOWN, () -> rows.hydrant(0, 0, main, 0));
            Check.refuses(UNKNOWN, () -> rows.hydrant(50_001, 0, main, 0));
        }
        for (int kind : new int[] {-1, 3, Integer.MIN_VALUE, Integer.MAX_VALUE}) {
            Check.refuses(UNKNOWN, () -> rows.hydrant(0, 0, 0, kind));
            Check.refuses(UNKNOWN, () -> rows.hydrant(0, -50_001, 0, kind));
        }
        for (int place : NO_PLACE) {
            Check.refuses(OUTSIDE, () -> rows.hydrant(place, 0, 0, 0));
            Check.refuses(OUTSIDE, () -> rows.hydrant(0, place, 0, 0));
        }
        Check.answers(0, () -> rows.hydrant(0, 0, 0, 0));
    }

    private static void limit() {
        Check.promise("3 limit");
        HydrantRows rows = new HydrantRows();
        rows.hydrant(0, 0, 0, 0);
        rows.hydrant(0, 0, 19, 0);
        rows.test(0, 0, 1_000, 20_000, 900);
        rows.test(1, 0, 1_000, 20_000, 900);
        Check.answers(40_000, () -> rows.supply(0, 0, 0, 0, 0));
        Check.done(() -> rows.limit(0, 300));
        Check.answers(20_300, () -> rows.supply(0, 0, 0, 0, 0));
        Check.done(() -> rows.limit(19, 0));
        Check.answers(300, () -> rows.supply(0, 0, 0, 0, 0));
        Check.done(() -> rows.limit(19, 20_000));
        Check.answers(20_300, () -> rows.supply(0, 0, 0, 0, 0));
        for (int main : new int[] {-1, 20, Integer.MIN_VALUE, Integer.MAX_VALUE}) {
            Check.refusesDeed(UNKNOWN, () -> rows.limit(main, 1));
            Check.refusesDeed(UNKNOWN, () -> rows.limit(main, -1));
        }
        for (int flow : NO_FLOW) {
            Check.refusesDeed(OUTSIDE, () -> rows.limit(0, flow));
        }
        Check.answers(20_300, () -> rows.supply(0, 0, 0, 0, 0));
    }

    private static void allow() {
        Check.promise("4 allow");
        HydrantRows rows = new HydrantRows();
        rows.hydrant(0, 0, 0, 1);
        rows.hydrant(0, 0, 0, 0);
        rows.hydrant(0, 0, 0, 2);
        Check.done(() -> rows.allow(true));
        expectNear(rows, 0, 0, 0, 0, 1, 2);
        Check.done(() -> rows.allow(true));
        Check.answers(true, () -> rows.usable(0, 0));
        Check.done(() -> rows.allow(false));
        Check.answers(false, () -> rows.usable(0, 0));
        expectNear(rows, 0, 0, 0, 1, 2);
    }

    private static void test() {
        Check.promise("5 test");
        HydrantRows rows = withHydrants(2);
        Check.answers(0, () -> rows.test(0, 10, 600, 1_000, 200));
        Check.answers(1, () -> rows.test(1, 99_999, 2_000, 20_000, 2_000));
        Check.answers(2, () -> rows.test(0, 9, 600, 2_000, 200));
        Check.answers(0, () -> rows.hydrantAt(0, 3));
        Check.answers(3, () -> rows.test(0, 10, 600, 3_000, 200));
        Check.answers(3, () -> rows.hydrantAt(0, 3));
        expectFlow(rows, 0, 200, 3_000, 1);
        Check.answers(4, () -> rows.test(0, 0, 0, 0, 0));
        Check.answers(3, () -> rows.hydrantAt(0, 3));
        Check.answers(4, () -> rows.hydrantAt(0, 4));
        Check.answers(1, () -> rows.hydrantAt(1, 4));
        for (int number = 5; number < 100; number++) {
            int due = number;
            Check.answers(due, () -> rows.test(1, due, 500, due, 100));
        }
        Check.refuses(NO_ROOM, () -> rows.test(0, 5, 500, 1, 100));
        Check.refuses(UNKNOWN, () -> rows.test(2, 5, 500, 1, 100));
        Check.refuses(OUTSIDE, () -> rows.test(0, -1, 500, 1, 100));
        Check.refuses(STATE, () -> rows.test(0, 5, 500, 1, 501));
        Check.refuses(UNKNOWN, () -> rows.testAt(100, 0));
        Check.answers(4, () -> rows.hydrantAt(0, 4));
        Check.answers(1, () -> rows.hydrantAt(1, 3));
    }

    private static void testRefusals() {
        Check.promise("5 test");
        HydrantRows rows = withHydrants(1);
        for (int hydrant : new int[] {-1, 1, 40, Integer.MIN_VALUE, Integer.MAX_VALUE}) {
            Check.refuses(UNKNOWN, () -> rows.test(hydrant, -1, 2_001, -1, 2_002));
        }
        for (int day : NO_DAY) {
            Check.refuses(OUTSIDE, () -> rows.test(0, day, 1, 1, 1));
            Check.refuses(OUTSIDE, () -> rows.test(0, day, 1, 1, 2));
        }
        for (int pressure : NO_PRESSURE) {
            Check.refuses(OUTSIDE, () -> rows.test(0, 0, pressure, 1, 0));
            Check.refuses(OUTSIDE, () -> rows.test(0, 0, 2_000, 1, pressure));
        }
        for (int flow : NO_FLOW) {
            Check.refuses(OUTSIDE, () -> rows.test(0, 0, 1, flow, 1));
            Check.refuses(OUTSIDE, () -> rows.test(0, 0, 1, flow, 2));
        }
        Check.refuses(STATE, () -> rows.test(0, 0, 1_999, 1, 2_000));
        Check.answers(0, () -> rows.hydrantAt(0, 4));
        Check.answers(0, () -> rows.test(0, 0, 0, 0, 0));
    }

    private static void flow() {
        Check.promise("6 flow");
        HydrantRows rows = withHydrants(3);
        rows.test(0, 0, 700, 1_000, 400);
        expectFlow(rows, 0, 400, 1_000, 1);
        expectFlow(rows, 0, 0, 7_000, 3);
        expectFlow(rows, 0, 100, 2_000, 1);
        expectFlow(rows, 0, 699, 10, 3);
        expectFlow(rows, 0, 685, 50, 1);
        expectFlow(rows, 0, 700, 0, 1);
        expectFlow(rows, 0, 2_000, 0, 1);
        rows.test(1, 0, 2_000, 20_000, 1_999);
        expectFlow(rows, 1, 0, 40_000_000, 1);
        rows.test(1, 0, 2_000, 19_997, 1);
        expectFlow(rows, 1, 1, 19_997, 1);
        expectFlow(rows, 1, 0, 39_994_000, 1_999);
        rows.test(2, 0, 500, 0, 100);
        expectFlow(rows, 2, 300, 0, 1);
        rows.test(2, 0, 500, 0, 500);
        Check.refuses(NOT_TOLD, () -> rows.flow(2, 499, 0));
        expectFlow(rows, 2, 500, 0, 1);
        rows.test(2, 0, 0, 77, 0);
        expectFlow(rows, 2, 0, 0, 1);
    }

    private static void flowRefusals() {
        Check.promise("6 flow");
        HydrantRows rows = withHydrants(2);
        rows.test(0, 0, 500, 1_000, 500);
        for (int hydrant : new int[] {-1, 2, 40, Integer.MIN_VALUE, Integer.MAX_VALUE}) {
            Check.refuses(UNKNOWN, () -> rows.flow(hydrant, -1, 0));
        }
        for (int what : new int[] {-1, 2, Integer.MIN_VALUE, Integer.MAX_VALUE}) {
            Check.refuses(UNKNOWN, () -> rows.flow(0, 0, what));
            Check.refuses(UNKNOWN, () -> rows.flow(1, -1, what));
        }
        for (int pressure : NO_PRESSURE) {
            Check.refuses(OUTSIDE, () -> rows.flow(0, pressure, 0));
            Check.refuses(OUTSIDE, () -> rows.flow(1, pressure, 1));
        }
        Check.refuses(STATE, () -> rows.flow(1, 0, 0));
        Check.refuses(STATE, () -> rows.flow(1, 2_000, 1));
        Check.refuses(NOT_TOLD, () -> rows.flow(0, 499, 0));
        Check.refuses(NOT_TOLD, () -> rows.flow(0, 0, 1));
    }

    private static void sort() {
        Check.promise("7 sort");
        HydrantRows rows = withHydrants(2);
        int[] flows = {0, 499, 500, 999, 1_000, 1_499, 1_500, 20_000};
        int[] classes = {0, 0, 1, 1, 2, 2, 3, 3};
        for (int i = 0; i < flows.length; i++) {
            int due = classes[i];
            rows.test(0, 0, 600, flows[i], 200);
            Check.answers(due, () -> rows.sort(0));
        }
        rows.test(0, 0, 600, 1_999, 300);
        Check.answers(3, () -> rows.sort(0));
        // 749 * 200 / 300 = 499 1/3
        rows.test(0, 0, 400, 749, 100);
        Check.answers(0, () -> rows.sort(0));
        // 2249 * 200 / 300 = 1499 1/3
        rows.test(0, 0, 400, 2_249, 100);
        Check.answers(2, () -> rows.sort(0));
        rows.test(0, 0, 200, 20_000, 200);
        Check.answers(0, () -> rows.sort(0));
        rows.test(0, 0, 201, 20_000, 201);
        Check.refuses(NOT_TOLD, () -> rows.sort(0));
        Check.refuses(STATE, () -> rows.sort(1));
        Check.refuses(UNKNOWN, () -> rows.sort(2));
        Check.refuses(UNKNOWN, () -> rows.sort(-1));
        Check.refuses(UNKNOWN, () -> rows.sort(Integer.MAX_VALUE));
        Check.refuses(UNKNOWN, () -> rows.sort(Integer.MIN_VALUE));
    }

    private static void defect() {
        Check.promise("8 defect");
        HydrantRows rows = withHydrants(2);
        Check.answers(0, () -> rows.hydrantAt(0, 2));
        Check.done(() -> rows.defect(0, 1));
        Check.answers(true, () -> rows.usable(0, 0));
        Check.answers(1, () -> rows.hydrantAt(0, 2));
        Check.done(() -> rows.defect(0, 2));
        Check.answers(false, () -> rows.usable(0, 0));
        Check.answers(true, () -> rows.usable(1, 0));
        for (int grade : new int[] {-1, 3, Integer.MIN_VALUE, Integer.MAX_VALUE}) {
            Check.refusesDeed(OUTSIDE, () -> rows.defect(0, grade));
            Check.refusesDeed(UNKNOWN, () -> rows.defect(2, grade));
        }
        Check.refusesDeed(UNKNOWN, () -> rows.defect(-1, 0));
        Check.answers(2, () -> rows.hydrantAt(0, 2));
        Check.done(() -> rows.defect(0, 0));
        Check.answers(true, () -> rows.usable(0, 0));
    }

    private static void works() {
        Check.promise("9 works");
        HydrantRows rows = withHydrants(2);
        Check.done(() -> rows.works(0, 10, 20));
        Check.answers(true, () -> rows.usable(0, 9));
        Check.answers(false, () -> rows.usable(0, 10));
        Check.answers(false, () -> rows.usable(0, 20));
        Check.answers(true, () -> rows.usable(0, 21));
        Check.answers(true, () -> rows.usable(1, 15));
        for (int[] days : new int[][] {{10, 20}, {0, 10}, {20, 30}, {12, 13}, {0, 99_999}, {15, 15}}) {
            Check.refusesDeed(STATE, () -> rows.works(0, days[0], days[1]));
        }
        Check.done(() -> rows.works(0, 0, 9));
        Check.done(() -> rows.works(0, 99_999, 99_999));
        Check.answers(3, () -> rows.hydrantAt(0, 5));
        Check.refusesDeed(NO_ROOM, () -> rows.works(0, 21, 21));
        Check.refusesDeed(STATE, () -> rows.works(0, 20, 21));
        Check.answers(true, () -> rows.usable(0, 21));
        Check.answers(false, () -> rows.usable(0, 99_999));
        Check.answers(3, () -> rows.hydrantAt(0, 5));
        Check.done(() -> rows.works(1, 10, 20));
        Check.answers(1, () -> rows.hydrantAt(1, 5));
    }

    private static void worksRefusals() {
        Check.promise("9 works");
        HydrantRows rows = withHydrants(1);
        rows.works(0, 10, 20);
        for (int hydrant : new int[] {-1, 1, Integer.MIN_VALUE, Integer.MAX_VALUE}) {
            Check.refusesDeed(UNKNOWN, () -> rows.works(hydrant, -1, 20));
        }
        for (int day : NO_DAY) {
            Check.refusesDeed(OUTSIDE, () -> rows.works(0, day, 15));
            Check.refusesDeed(OUTSIDE, () -> rows.works(0, 15, day));
        }
        Check.refusesDeed(OUTSIDE, () -> rows.works(0, 16, 15));
        Check.refusesDeed(OUTSIDE, () -> rows.works(0, 5, 4));
        Check.answers(1, () -> rows.hydrantAt(0, 5));
    }

    private static void season() {
        Check.promise("10 season");
        HydrantRows rows = new HydrantRows();
        rows.hydrant(0, 0, 0, 2);
        rows.hydrant(0, 0, 0, 0);
        rows.hydrant(0, 0, 0, 1);
        rows.hydrant(0, 0, 0, 2);
        Check.done(() -> rows.season(0, 0, true));
        Check.done(() -> rows.season(0, 11, true));
        int[] days = {0, 29, 30, 329, 330, 359, 360, 389, 390, 99_989, 99_990};
        boolean[] due = {false, false, true, true, false, false, false, false, true, true, true};
        for (int i = 0; i < days.length; i++) {
            int at = i;
            Check.answers(due[i], () -> rows.usable(0, days[at]));
        }
        Check.answers(true, () -> rows.usable(3, 0));
        Check.done(() -> rows.season(0, 0, false));
        Check.answers(true, () -> rows.usable(0, 0));
        Check.answers(false, () -> rows.usable(0, 330));
        Check.done(() -> rows.season(0, 1, false));
        Check.answers(true, () -> rows.usable(0, 30));
        for (int month : new int[] {-1, 12, Integer.MIN_VALUE, Integer.MAX_VALUE}) {
            Check.refusesDeed(OUTSIDE, () -> rows.season(0, month, true));
            Check.refusesDeed(OUTSIDE, () -> rows.season(1, month, true));
            Check.refusesDeed(UNKNOWN, () -> rows.season(4, month, true));
        }
        Check.refusesDeed(UNKNOWN, () -> rows.season(-1, 0, true));
        Check.refusesDeed(STATE, () -> rows.season(1, 0, true));
        Check.refusesDeed(STATE, () -> rows.season(2, 0, false));
        Check.answers(true, () -> rows.usable(1, 0));
    }

    private static void usable() {
        Check.promise("11 usable");
        HydrantRows rows = new HydrantRows();
        rows.hydrant(0, 0, 0, 1);
        rows.hydrant(0, 0, 0, 2);
        rows.works(0, 5, 5);
        rows.season(1, 2, true);
        rows.defect(1, 1);
        Check.answers(false, () -> rows.usable(0, 4));
        rows.allow(true);
        Check.answers(true, () -> rows.usable(0, 4));
        Check.answers(false, () -> rows.usable(0, 5));
        Check.answers(true, () -> rows.usable(0, 6));
        Check.answers(true, () -> rows.usable(1, 59));
        Check.answers(false, () -> rows.usable(1, 60));
        Check.answers(false, () -> rows.usable(1, 89));
        Check.answers(true, () -> rows.usable(1, 90));
        rows.defect(1, 2);
        Check.answers(false, () -> rows.usable(1, 90));
        Check.answers(true, () -> rows.usable(0, 99_999));
        for (int day : NO_DAY) {
            Check.refuses(OUTSIDE, () -> rows.usable(0, day));
            Check.refuses(UNKNOWN, () -> rows.usable(2, day));
            Check.refuses(UNKNOWN, () -> rows.usable(-1, day));
        }
    }

    private static void near() {
        Check.promise("12 near");
        HydrantRows rows = new HydrantRows();
        rows.hydrant(50_000, 50_000, 0, 0);
        rows.hydrant(3, -4, 0, 0);
        rows.hydrant(-7, 0, 0, 0);
        rows.hydrant(0, 6, 0, 1);
        rows.hydrant(0, 0, 0, 2);
        expectNear(rows, 0, 0, 0, 4, 1, 2, 0);
        rows.allow(true);
        expectNear(rows, 0, 0, 0, 4, 3, 1, 2, 0);
        rows.season(4, 0, true);
        rows.works(1, 0, 0);
        expectNear(rows, 0, 0, 0, 3, 2, 0);
        expectNear(rows, 0, 0, 1, 3, 1, 2, 0);
        rows.defect(2, 2);
        expectNear(rows, -50_000, -50_000, 30, 1, 4, 3, 0);
        expectNear(rows, 50_000, 50_000, 99_999, 0, 3, 4, 1);
        Check.answers(-1, () -> rows.near(0, 0, 0, Integer.MAX_VALUE));
        Check.answers(-1, () -> withHydrants(40).near(0, 0, 0, 40));
        Check.answers(39, () -> withHydrants(40).near(0, 0, 0, 39));
    }

    private static void nearRefusals() {
        Check.promise("12 near");
        HydrantRows rows = withHydrants(1);
        for (int place : NO_PLACE) {
            Check.refuses(OUTSIDE, () -> rows.near(place, 0, 0, 0));
            Check.refuses(OUTSIDE, () -> rows.near(0, place, 0, 0));
        }
        for (int day : NO_DAY) {
            Check.refuses(OUTSIDE, () -> rows.near(0, 0, day, 0));
        }
        for (int i : NO_INDEX) {
            Check.refuses(OUTSIDE, () -> rows.near(0, 0, 0, i));
        }
    }

    private static void both() {
        Check.promise("13 both");
        HydrantRows rows = new HydrantRows();
        rows.hydrant(0, 0, 3, 0);
        rows.hydrant(0, 0, 3, 1);
        rows.hydrant(0, 0, 4, 0);
        // At 100 centibar: 500 * 300 / 300 = 500, 700 * 200 / 300 = 466 2/3, 401 * 200 / 300 = 267 1/3.
        rows.test(0, 0, 400, 500, 100);
        rows.test(1, 0, 300, 700, 0);
        rows.test(2, 0, 300, 401, 0);
        Check.answers(724, () -> rows.both(0, 1, 100));
        Check.answers(724, () -> rows.both(1, 0, 100));
        Check.answers(767, () -> rows.both(0, 2, 100));
        Check.answers(733, () -> rows.both(2, 1, 100));
        rows.limit(3, 724);
        Check.answers(724, () -> rows.both(0, 1, 100));
        rows.limit(3, 723);
        Check.answers(723, () -> rows.both(0, 1, 100));
        rows.limit(3, 0);
        rows.limit(4, 0);
        Check.answers(0, () -> rows.both(0, 1, 100));
        Check.answers(767, () -> rows.both(0, 2, 100));
        // Neither defects nor works matter here: only the pressures do.
        rows.defect(0, 2);
        Check.answers(767, () -> rows.both(0, 2, 100));
        // At 300: 166 2/3 and 0.
        Check.answers(166, () -> rows.both(0, 2, 300));
        Check.answers(0, () -> rows.both(0, 2, 2_000));
        rows.test(0, 1, 2_000, 20_000, 1_999);
        rows.test(1, 1, 2_000, 20_000, 1_999);
        rows.test(2, 1, 2_000, 20_000, 1_999);
        Check.answers(80_000_000, () -> rows.both(0, 2, 0));
        rows.limit(3, 20_000);
        Check.answers(20_000, () -> rows.both(0, 1, 0));
    }

    private static void bothOnEachMain() {
        Check.promise("13 both");
        for (int main = 0; main < 20; main++) {
            int limit = 100 + main;
            HydrantRows rows = new HydrantRows();
            rows.hydrant(0, 0, main, 0);
            rows.hydrant(0, 0, main, 0);
            rows.test(0, 0, 500, 300, 0);
            rows.test(1, 0, 500, 300, 0);
            Check.answers(450, () -> rows.both(0, 1, 0));
            rows.limit(main, limit);
            Check.answers(limit, () -> rows.both(0, 1, 0));
        }
    }

    private static void bothRefusals() {
        Check.promise("13 both");
        HydrantRows rows = withHydrants(3);
        rows.test(0, 0, 500, 100, 500);
        rows.test(2, 0, 500, 100, 100);
        for (int hydrant : new int[] {-1, 3, Integer.MIN_VALUE, Integer.MAX_VALUE}) {
            Check.refuses(UNKNOWN, () -> rows.both(hydrant, 0, -1));
            Check.refuses(UNKNOWN, () -> rows.both(0, hydrant, -1));
        }
        Check.refuses(UNKNOWN, () -> rows.both(0, 0, -1));
        Check.refuses(UNKNOWN, () -> rows.both(1, 1, 0));
        for (int pressure : NO_PRESSURE) {
            Check.refuses(OUTSIDE, () -> rows.both(0, 1, pressure));
        }
        Check.refuses(STATE, () -> rows.both(0, 1, 400));
        Check.refuses(STATE, () -> rows.both(1, 0, 400));
        Check.refuses(STATE, () -> rows.both(2, 1, 2_000));
        Check.refuses(NOT_TOLD, () -> rows.both(0, 2, 499));
        Check.refuses(NOT_TOLD, () -> rows.both(2, 0, 499));
        Check.answers(0, () -> rows.both(2, 0, 500));
    }

    private static void supply() {
        Check.promise("14 supply");
        HydrantRows rows = new HydrantRows();
        rows.hydrant(10, 0, 0, 0);
        rows.hydrant(0, -20, 0, 0);
        rows.hydrant(-15, -15, 7, 0);
        // At 100 centibar: 500, 466 2/3, 267 1/3.
        rows.test(0, 0, 400, 500, 100);
        rows.test(1, 0, 300, 700, 0);
        rows.test(2, 0, 300, 401, 0);
        Check.answers(0, () -> rows.supply(0, 0, 0, 100, 9));
        Check.answers(500, () -> rows.supply(0, 0, 0, 100, 10));
        Check.answers(500, () -> rows.supply(0, 0, 0, 100, 19));
        Check.answers(966, () -> rows.supply(0, 0, 0, 100, 20));
        Check.answers(966, () -> rows.supply(0, 0, 0, 100, 29));
        Check.answers(1_233, () -> rows.supply(0, 0, 0, 100, 30));
        Check.answers(500, () -> rows.supply(10, 0, 0, 100, 0));
        Check.answers(0, () -> rows.supply(0, 0, 0, 400, 200_000));
        rows.limit(0, 900);
        Check.answers(1_167, () -> rows.supply(0, 0, 0, 100, 30));
        rows.limit(7, 1);
        Check.answers(901, () -> rows.supply(0, 0, 0, 100, 30));
        HydrantRows full = new HydrantRows();
        for (int i = 0; i < 40; i++) {
            full.hydrant(50_000, 50_000, 19, 0);
            full.test(i, 0, 2_000, 20_000, 1_999);
        }
        Check.answers(20_000, () -> full.supply(-50_000, -50_000, 0, 0, 200_000));
        Check.answers(0, () -> full.supply(-50_000, -50_000, 0, 0, 199_999));
    }

    private static void supplyOfUsable() {
        Check.promise("14 supply");
        HydrantRows rows = new HydrantRows();
        rows.hydrant(0, 0, 1, 0);
        rows.hydrant(0, 0, 2, 1);
        rows.hydrant(0, 0, 3, 2);
        rows.hydrant(0, 0, 4, 0);
        rows.hydrant(0, 0, 5, 0);
        rows.test(0, 0, 500, 1, 0);
        rows.test(1, 0, 500, 10, 0);
        rows.test(2, 0, 500, 100, 0);
        rows.test(3, 0, 500, 1_000, 500);
        Check.answers(101, () -> rows.supply(0, 0, 0, 0, 0));
        rows.allow(true);
        Check.answers(111, () -> rows.supply(0, 0, 0, 0, 0));
        rows.season(2, 0, true);
        Check.answers(11, () -> rows.supply(0, 0, 29, 0, 0));
        Check.answers(111, () -> rows.supply(0, 0, 30, 0, 0));
        rows.works(1, 29, 29);
        Check.answers(1, () -> rows.supply(0, 0, 29, 0, 0));
        rows.defect(0, 2);
        Check.answers(0, () -> rows.supply(0, 0, 29, 0, 0));
        Check.answers(110, () -> rows.supply(0, 0, 99_999, 0, 0));
    }

    private static void supplyRefusals() {
        Check.promise("14 supply");
        HydrantRows rows = withHydrants(1);
        for (int place : NO_PLACE) {
            Check.refuses(OUTSIDE, () -> rows.supply(place, 0, 0, 0, 0));
            Check.refuses(OUTSIDE, () -> rows.supply(0, place, 0, 0, 0));
        }
        for (int day : NO_DAY) {
            Check.refuses(OUTSIDE, () -> rows.supply(0, 0, day, 0, 0));
        }
        for (int pressure : NO_PRESSURE) {
            Check.refuses(OUTSIDE, () -> rows.supply(0, 0, 0, pressure, 0));
        }
        for (int hose : new int[] {-1, 200_001, Integer.MIN_VALUE, Integer.MAX_VALUE}) {
            Check.refuses(OUTSIDE, () -> rows.supply(0, 0, 0, 0, hose));
        }
        Check.answers(0, () -> rows.supply(50_000, -50_000, 99_999, 2_000, 200_000));
    }

    private static void round() {
        Check.promise("15 round");
        HydrantRows rows = withPlaces(new int[][] {{10, 0}, {10, 10}, {0, 10}, {-50_000, -50_000}, {50_000, 50_000}});
        Check.answers(20, () -> rows.round(stops(0), 1));
        Check.answers(40, () -> rows.round(stops(1), 1));
        Check.answers(200_000, () -> rows.round(stops(3), 1));
        // The square, told crosswise: its edge is walked once round, 0 first.
        Check.answers(40, () -> rows.round(stops(2, 0, 1), 3));
        expectStops(rows, 0, 1, 2);
        Check.answers(400_000, () -> rows.round(stops(4, 3), 2));
        expectStops(rows, 3, 4);
        // Bits behind the n hydrants are not looked at, whatever they hold.
        Check.answers(20, () -> rows.round(stops(2, 63, 63) | Long.MIN_VALUE, 1));
        expectStops(rows, 2);
        Check.answers(0, () -> rows.round(-1L, 0));
        expectStops(rows);
        // Works and defects do not keep a round away.
        rows.defect(0, 2);
        Check.answers(20, () -> rows.round(stops(0), 1));
    }

    private static void roundOrders() {
        Check.promise("15 round");
        HydrantRows same = withHydrants(40);
        Check.answers(0, () -> same.round(stops(39, 7, 38, 1, 20, 0), 6));
        expectStops(same, 0, 1, 7, 20, 38, 39);
        // On a line the way out may skip some and fetch them on the way back: the first by numbers takes each at once.
        HydrantRows line = withPlaces(new int[][] {{30, 0}, {10, 0}, {20, 0}});
        Check.answers(60, () -> line.round(stops(2, 1, 0), 3));
        expectStops(line, 0, 2, 1);
        // An order and its reverse are as long as one another: the smaller number goes first.
        // (What is due for these two comes from a script that tries all orders, not from work by hand.)
        HydrantRows ring = withPlaces(new int[][] {{5, -20}, {20, 5}, {-20, -5}, {-5, 20}, {20, 20}, {-20, -20}});
        Check.answers(170, () -> ring.round(stops(5, 4, 3, 2, 1, 0), 6));
        expectStops(ring, 0, 5, 2, 3, 4, 1);
        HydrantRows corners = withPlaces(new int[][] {{100, 1}, {-100, 1}, {100, -1}, {-100, -1}, {0, 90}, {0, -90}});
        Check.answers(762, () -> corners.round(stops(0, 1, 2, 3, 4, 5), 6));
        expectStops(corners, 0, 2, 5, 3, 1, 4);
    }

    private static void roundRefusals() {
        Check.promise("15 round");
        HydrantRows rows = withPlaces(new int[][] {{1, 0}, {2, 0}, {3, 0}, {4, 0}, {5, 0}, {6, 0}});
        rows.round(stops(1, 0), 2);
        Check.refuses(UNKNOWN, () -> rows.round(stops(0, 6), 2));
        Check.refuses(UNKNOWN, () -> rows.round(stops(63), 1));
        Check.refuses(UNKNOWN, () -> rows.round(-1L, 6));
        Check.refuses(UNKNOWN, () -> rows.round(stops(0, 0, 40), 3));
        Check.refuses(OUTSIDE, () -> rows.round(stops(0, 0), 2));
        Check.refuses(OUTSIDE, () -> rows.round(stops(0, 1, 2, 3, 4, 0), 6));
        Check.refuses(OUTSIDE, () -> rows.round(stops(0, 1, 2, 3, 4, 4), 6));
        for (int n : new int[] {7, 11, 64, Integer.MAX_VALUE}) {
            Check.refuses(OUTSIDE, () -> rows.round(stops(0, 1, 2, 3, 4, 5), n));
            Check.refuses(OUTSIDE, () -> rows.round(stops(0, 1, 2, 3, 4, 5) | 63L << 36, n));
            Check.refuses(UNKNOWN, () -> rows.round(stops(0, 1, 2, 3, 4, 6), n));
        }
        Check.refuses(OUTSIDE, () -> rows.round(-1L, -1));
        Check.refuses(OUTSIDE, () -> rows.round(0L, Integer.MIN_VALUE));
        Check.refuses(UNKNOWN, () -> new HydrantRows().round(0L, 1));
        Check.refuses(UNKNOWN, () -> new HydrantRows().round(0L, 7));
        expectStops(rows, 0, 1);
    }

    private static void stop() {
        Check.promise("16 stop");
        HydrantRows rows = withPlaces(new int[][] {{1, 0}, {2, 0}, {3, 0}});
        expectStops(rows);
        rows.round(stops(2, 1, 0), 3);
        expectStops(rows, 0, 1, 2);
        Check.answers(-1, () -> rows.stop(6));
        Check.answers(-1, () -> rows.stop(Integer.MAX_VALUE));
        for (int i : NO_INDEX) {
            Check.refuses(OUTSIDE, () -> rows.stop(i));
        }
        rows.round(stops(2), 1);
        expectStops(rows, 2);
        rows.round(0L, 0);
        expectStops(rows);
    }

    private static void overdue() {
        Check.promise("17 overdue");
        HydrantRows rows = withHydrants(5);
        rows.test(0, 100, 1, 1, 1);
        rows.test(1, 50, 1, 1, 1);
        rows.test(3, 50, 1, 1, 1);
        rows.test(4, 49, 1, 1, 1);
        expectOverdue(rows, 200, 50, 2, 4, 1, 3, 0);
        expectOverdue(rows, 200, 99, 2, 4, 1, 3, 0);
        expectOverdue(rows, 200, 100, 2, 4, 1, 3);
        expectOverdue(rows, 200, 150, 2, 4);
        expectOverdue(rows, 200, 151, 2);
        expectOverdue(rows, 50, 0, 2, 4);
        expectOverdue(rows, 0, 0, 2);
        expectOverdue(rows, 99_999, 9_999, 2, 4, 1, 3, 0);
        // The test that counts is the latest one, even when it is yet to come.
        rows.test(4, 300, 1, 1, 1);
        expectOverdue(rows, 200, 50, 2, 1, 3, 0);
        rows.test(2, 0, 1, 1, 1);
        expectOverdue(rows, 200, 50, 2, 1, 3, 0);
        expectOverdue(rows, 0, 0);
        rows.defect(1, 2);
        expectOverdue(rows, 200, 50, 2, 1, 3, 0);
        rows.hydrant(0, 0, 0, 1);
        rows.hydrant(0, 0, 0, 2);
        expectOverdue(rows, 200, 50, 5, 6, 2, 1, 3, 0);
        Check.answers(-1, () -> rows.overdue(200, 50, Integer.MAX_VALUE));
    }

    private static void overdueRefusals() {
        Check.promise("17 overdue");
        HydrantRows rows = withHydrants(1);
        for (int day : NO_DAY) {
            Check.refuses(OUTSIDE, () -> rows.overdue(day, 0, 0));
        }
        for (int days : new int[] {-1, 10_000, Integer.MIN_VALUE, Integer.MAX_VALUE}) {
            Check.refuses(OUTSIDE, () -> rows.overdue(0, days, 0));
        }
        for (int i : NO_INDEX) {
            Check.refuses(OUTSIDE, () -> rows.overdue(0, 0, i));
        }
    }

    private static void testAt() {
        Check.promise("18 testAt");
        HydrantRows rows = withHydrants(3);
        rows.test(2, 77, 600, 1_234, 200);
        rows.test(1, 99_999, 2_000, 20_000, 0);
        int[][] due = {{2, 77, 600, 1_234, 200}, {1, 99_999, 2_000, 20_000, 0}};
        for (int i = 0; i < due.length; i++) {
            int at = i;
            for (int what = 0; what < 5; what++) {
                int asked = what;
                Check.answers(due[i][what], () -> rows.testAt(at, asked));
            }
            Check.refuses(UNKNOWN, () -> rows.testAt(at, 5));
            Check.refuses(UNKNOWN, () -> rows.testAt(at, -1));
        }
        for (int i : new int[] {-1, 2, 99, 100, Integer.MIN_VALUE, Integer.MAX_VALUE}) {
            Check.refuses(UNKNOWN, () -> rows.testAt(i, 0));
        }
        Check.refuses(UNKNOWN, () -> rows.testAt(0, Integer.MAX_VALUE));
        Check.refuses(UNKNOWN, () -> rows.testAt(0, Integer.MIN_VALUE));
    }

    private static void hydrantAt() {
        Check.promise("19 hydrantAt");
        HydrantRows rows = new HydrantRows();
        rows.hydrant(1, 2, 3, 1);
        rows.hydrant(1, 2, 19, 2);
        int[] atFirst = {19, 2, 0, -1, 0, 0};
        for (int what = 0; what < 6; what++) {
            int asked = what;
            Check.answers(atFirst[what], () -> rows.hydrantAt(1, asked));
        }
        rows.defect(1, 1);
        rows.test(0, 0, 1, 1, 1);
        rows.test(1, 9, 1, 1, 1);
        rows.test(1, 8, 1, 1, 1);
        rows.works(1, 1, 1);
        rows.works(1, 3, 3);
        int[] later = {19, 2, 1, 1, 2, 2};
        for (int what = 0; what < 6; what++) {
            int asked = what;
            Check.answers(later[what], () -> rows.hydrantAt(1, asked));
        }
        for (int what : new int[] {-1, 6, Integer.MIN_VALUE, Integer.MAX_VALUE}) {
            Check.refuses(UNKNOWN, () -> rows.hydrantAt(0, what));
        }
        for (int hydrant : new int[] {-1, 2, 39, 40, Integer.MIN_VALUE, Integer.MAX_VALUE}) {
            Check.refuses(UNKNOWN, () -> rows.hydrantAt(hydrant, 0));
        }
    }
}
