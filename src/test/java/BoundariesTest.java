/**
 * The document's boundary cases, sentence by sentence: each function tries one sentence, whose words it tells with
 * every answer that is not as due. Which values a range takes is tried in RangesTest, two refusals at once in
 * RefusalOrderTest, that a refused call changes nothing in UnchangedTest.
 */
public final class BoundariesTest extends Examples {
    private static final int LAST_CALL = 512;

    public static void main(String[] args) {
        lastCall();
        daysHaveTwoEnds();
        monthsWrap();
        fortyHydrants();
        placesHaveCorners();
        mainsAreTwenty();
        limitAtFirst();
        limitHasTwoEnds();
        hundredTests();
        leftNotAboveRest();
        latestDayCounts();
        toldLastCounts();
        testToComeCounts();
        flowIsStraight();
        flowInLowestTerms();
        nothingAtRest();
        notToldBelowRest();
        noTest();
        classes();
        classRoundedDown();
        classOfFlat();
        defects();
        worksHaveBothDays();
        threeWorks();
        worksShareNoDay();
        worksOfOneDay();
        privateOnes();
        dryMonths();
        usableForAllReasons();
        usableWhereNamed();
        hoseWithoutSign();
        nearByHoseThenNumber();
        nearEnds();
        bothRoundedDown();
        threeQuarters();
        bothWithinLimit();
        bothOnTwoMains();
        supplyRoundedDown();
        supplyWithinHose();
        supplyWithinLimits();
        supplyOfTold();
        emptyRound();
        roundOfOne();
        roundOfSix();
        roundLeastOfAll();
        roundFirstByNumbers();
        roundBitsBehind();
        stopsBehindRound();
        roundForgotten();
        overdueByOneDay();
        overdueToCome();
        overdueOrder();
        overdueEnds();
        history();
        newObject();
        newHydrant();
        Check.end();
    }

    private static void lastCall() {
        Check.promise("An object is used for at most 512 calls");
        HydrantRows rows = new HydrantRows();
        int calls = 0;
        for (int i = 0; i < 40; i++) {
            rows.hydrant(1_000 * i % 777, 1_000 * i % 555, 0, 0);
            rows.works(i, 0, 0);
            rows.works(i, 2, 2);
            rows.works(i, 4, 4);
            calls += 4;
        }
        for (int i = 0; i < 100; i++) {
            rows.test(i % 40, i, 600, 1_000, 200);
            calls++;
        }
        for (; calls < LAST_CALL - 2; calls++) {
            rows.round(stops(39, 35, 28, 20, 11, 1), 6);
        }
        Check.answers(0, () -> rows.near(0, 0, 1, 0));
        Check.answers(79, () -> rows.hydrantAt(39, 3));
    }

    private static void daysHaveTwoEnds() {
        Check.promise("DAYS are 0 .. 99,999");
        HydrantRows rows = withHydrants(3);
        rows.works(0, 0, 0);
        rows.works(0, 99_999, 99_999);
        Check.answers(false, () -> rows.usable(0, 0));
        Check.answers(true, () -> rows.usable(0, 1));
        Check.answers(true, () -> rows.usable(0, 99_998));
        Check.answers(false, () -> rows.usable(0, 99_999));
        rows.works(1, 0, 99_999);
        Check.answers(false, () -> rows.usable(1, 0));
        Check.answers(false, () -> rows.usable(1, 99_999));
        rows.test(2, 0, 1, 1, 0);
        Check.answers(0, () -> rows.testAt(0, 1));
        rows.test(2, 99_999, 1, 1, 0);
        Check.answers(99_999, () -> rows.testAt(1, 1));
    }

    private static void monthsWrap() {
        Check.promise("the MONTH of a day (0 .. 11) is the day modulo 360, over 30");
        for (int month = 0; month < 12; month++) {
            HydrantRows rows = new HydrantRows();
            rows.hydrant(0, 0, 0, 2);
            rows.season(0, month, true);
            for (int year : new int[] {0, 1, 2, 276}) {
                int first = 360 * year + 30 * month;
                Check.answers(false, () -> rows.usable(0, first));
                Check.answers(false, () -> rows.usable(0, first + 29));
                Check.answers(true, () -> rows.usable(0, first + 30));
                if (first > 0) {
                    Check.answers(true, () -> rows.usable(0, first - 1));
                }
            }
            // The last year ends early, with the first ten days of month 9.
            Check.answers(month != 9, () -> rows.usable(0, 99_999));
            Check.answers(month != 9, () -> rows.usable(0, 99_990));
            Check.answers(month != 8, () -> rows.usable(0, 99_989));
        }
    }

    private static void fortyHydrants() {
        Check.promise("HYDRANTS 0, 1, .. (at most 40)");
        HydrantRows rows = withHydrants(38);
        Check.answers(38, () -> rows.hydrant(1, 2, 3, 1));
        Check.answers(39, () -> rows.hydrant(4, 5, 6, 2));
        Check.refuses(NO_ROOM, () -> rows.hydrant(0, 0, 0, 0));
        Check.refuses(NO_ROOM, () -> rows.hydrant(0, 0, 0, 0));
        Check.answers(6, () -> rows.hydrantAt(39, 0));
        Check.refuses(UNKNOWN, () -> rows.hydrantAt(40, 0));
    }

    private static void placesHaveCorners() {
        Check.promise("at a place x, y (-50,000 .. 50,000 metres)");
        HydrantRows rows = withPlaces(
            new int[][] {{-50_000, -50_000}, {-50_000, 50_000}, {50_000, -50_000}, {50_000, 50_000}});
        expectNear(rows, -50_000, -50_000, 0, 0, 1, 2, 3);
        expectNear(rows, -50_000, 50_000, 0, 1, 0, 3, 2);
        expectNear(rows, 50_000, -50_000, 0, 2, 0, 3, 1);
        expectNear(rows, 50_000, 50_000, 0, 3, 1, 2, 0);
    }

    private static void mainsAreTwenty() {
        Check.promise("on a MAIN (0 .. 19), of a KIND");
        HydrantRows rows = new HydrantRows();
        for (int main = 0; main < 20; main++) {
            rows.hydrant(0, 0, main, main % 3);
        }
        for (int number = 0; number < 20; number++) {
            int asked = number;
            Check.answers(number, () -> rows.hydrantAt(asked, 0));
            Check.answers(number % 3, () -> rows.hydrantAt(asked, 1));
        }
    }

    /** A hydrant on each main, each of which gives so much at 0 centibar. */
    private static HydrantRows onEachMain(int flow) {
        HydrantRows rows = new HydrantRows();
        for (int main = 0; main < 20; main++) {
            rows.hydrant(main, 0, main, 0);
            rows.test(main, 0, 2, flow, 1);
        }
        return rows;
    }

    private static void limitAtFirst() {
        Check.promise("MAINS have a LIMIT (a flow; 20,000 at first)");
        // Each gives twice the flow of its test, at no hose from its own place.
        HydrantRows exact = onEachMain(10_000);
        HydrantRows above = onEachMain(10_001);
        HydrantRows below = onEachMain(9_999);
        for (int main = 0; main < 20; main++) {
            int x = main;
            Check.answers(20_000, () -> exact.supply(x, 0, 0, 0, 0));
            Check.answers(20_000, () -> above.supply(x, 0, 0, 0, 0));
            Check.answers(19_998, () -> below.supply(x, 0, 0, 0, 0));
        }
        Check.answers(400_000, () -> above.supply(0, 0, 0, 0, 200_000));
    }

    private static void limitHasTwoEnds() {
        Check.promise("A main's limit");
        HydrantRows rows = onEachMain(20_000);
        rows.limit(0, 0);
        rows.limit(19, 1);
        rows.limit(10, 20_000);
        Check.answers(0, () -> rows.supply(0, 0, 0, 0, 0));
        Check.answers(20_000, () -> rows.supply(1, 0, 0, 0, 0));
        Check.answers(20_000, () -> rows.supply(10, 0, 0, 0, 0));
        Check.answers(20_000, () -> rows.supply(18, 0, 0, 0, 0));
        Check.answers(1, () -> rows.supply(19, 0, 0, 0, 0));
        Check.answers(360_001, () -> rows.supply(0, 0, 0, 0, 200_000));
        Check.refusesDeed(OUTSIDE, () -> rows.limit(19, 20_001));
        Check.refusesDeed(OUTSIDE, () -> rows.limit(19, -1));
        Check.answers(1, () -> rows.supply(19, 0, 0, 0, 0));
        rows.limit(0, 20_000);
        Check.answers(20_000, () -> rows.supply(0, 0, 0, 0, 0));
    }

    private static void hundredTests() {
        Check.promise("TESTS (at most 100 in all)");
        HydrantRows rows = withHydrants(40);
        for (int i = 0; i < 98; i++) {
            rows.test(i % 40, i, 500, i, 100);
        }
        Check.answers(98, () -> rows.test(38, 7, 500, 98, 100));
        Check.answers(99, () -> rows.test(39, 7, 500, 99, 100));
        Check.refuses(NO_ROOM, () -> rows.test(0, 99_999, 500, 100, 100));
        Check.refuses(NO_ROOM, () -> rows.test(39, 99_999, 500, 100, 100));
        Check.answers(99, () -> rows.testAt(99, 3));
        Check.refuses(UNKNOWN, () -> rows.testAt(100, 3));
        Check.answers(3, () -> rows.hydrantAt(0, 4));
        Check.answers(3, () -> rows.hydrantAt(39, 4));
        Check.answers(79, () -> rows.hydrantAt(39, 3));
    }

    private static void leftNotAboveRest() {
        Check.promise("the pressure LEFT with it (not above the one at rest)");
        HydrantRows rows = withHydrants(1);
        for (int rest : new int[] {1, 999, 1_999}) {
            Check.refuses(STATE, () -> rows.test(0, 0, rest, 1, rest + 1));
        }
        Check.refuses(STATE, () -> rows.test(0, 0, 0, 1, 1));
        Check.refuses(STATE, () -> rows.test(0, 0, 0, 1, 2_000));
        Check.answers(0, () -> rows.test(0, 0, 0, 1, 0));
        Check.answers(1, () -> rows.test(0, 0, 999, 1, 999));
        Check.answers(2, () -> rows.test(0, 0, 2_000, 1, 2_000));
        Check.answers(3, () -> rows.test(0, 0, 2_000, 1, 0));
        Check.answers(4, () -> rows.test(0, 0, 2_000, 1, 1_999));
    }

    private static void latestDayCounts() {
        Check.promise("The one of the latest day counts");
        HydrantRows rows = withHydrants(2);
        rows.test(0, 50, 500, 10, 0);
        rows.test(0, 49, 500, 20, 0);
        Check.answers(0, () -> rows.hydrantAt(0, 3));
        rows.test(0, 51, 500, 30, 0);
        Check.answers(2, () -> rows.hydrantAt(0, 3));
        // A later day of another hydrant is nothing to this one.
        rows.test(1, 99_999, 500, 40, 0);
        rows.test(0, 0, 500, 50, 0);
        Check.answers(2, () -> rows.hydrantAt(0, 3));
        Check.answers(3, () -> rows.hydrantAt(1, 3));
        expectFlow(rows, 0, 0, 30, 1);
        expectFlow(rows, 1, 0, 40, 1);
    }

    private static void toldLastCounts() {
        Check.promise("(of one day the one told last)");
        for (int day : new int[] {0, 50, 99_999}) {
            HydrantRows rows = withHydrants(2);
            rows.test(0, day, 500, 20, 0);
            rows.test(0, day, 500, 10, 0);
            rows.test(1, day, 500, 30, 0);
            Check.answers(1, () -> rows.hydrantAt(0, 3));
            expectFlow(rows, 0, 0, 10, 1);
            rows.test(0, day, 500, 10, 0);
            Check.answers(3, () -> rows.hydrantAt(0, 3));
            Check.answers(3, () -> rows.hydrantAt(0, 4));
        }
    }

    private static void testToComeCounts() {
        Check.promise("The one of the latest day counts, be it to come by the day that is asked");
        HydrantRows rows = withHydrants(2);
        for (int hydrant = 0; hydrant < 2; hydrant++) {
            rows.test(hydrant, 10, 400, 400, 200);
            rows.test(hydrant, 99_999, 400, 1_600, 200);
        }
        for (int day : new int[] {0, 9, 10, 11, 99_998, 99_999}) {
            Check.answers(3_200, () -> rows.supply(0, 0, day, 200, 0));
            Check.answers(-1, () -> rows.overdue(day, 0, 0));
        }
        expectFlow(rows, 0, 200, 1_600, 1);
        Check.answers(3, () -> rows.sort(0));
        Check.answers(2_400, () -> rows.both(0, 1, 200));
        Check.answers(1, () -> rows.hydrantAt(0, 3));
    }

    private static void flowIsStraight() {
        Check.promise("that of the test times (rest less p) over (rest less left)");
        HydrantRows rows = withHydrants(2);
        rows.test(0, 0, 600, 1_000, 200);
        expectFlow(rows, 0, 201, 1_995, 2);
        expectFlow(rows, 0, 200, 1_000, 1);
        expectFlow(rows, 0, 199, 2_005, 2);
        expectFlow(rows, 0, 0, 1_500, 1);
        // The greatest that can be: 20,000 times 2,000 over 1.
        rows.test(1, 0, 2_000, 20_000, 1_999);
        expectFlow(rows, 1, 0, 40_000_000, 1);
        expectFlow(rows, 1, 1_999, 20_000, 1);
        rows.test(1, 0, 2_000, 20_000, 0);
        expectFlow(rows, 1, 0, 20_000, 1);
        expectFlow(rows, 1, 1_999, 10, 1);
        rows.test(1, 0, 1, 20_000, 0);
        expectFlow(rows, 1, 0, 20_000, 1);
        rows.test(1, 0, 2_000, 1, 0);
        expectFlow(rows, 1, 1_999, 1, 2_000);
    }

    private static void flowInLowestTerms() {
        Check.promise("The flow at a pressure in lowest terms");
        HydrantRows rows = withHydrants(1);
        rows.test(0, 0, 1_024, 512, 0);
        expectFlow(rows, 0, 1_023, 1, 2);
        expectFlow(rows, 0, 1_021, 3, 2);
        expectFlow(rows, 0, 512, 256, 1);
        rows.test(0, 0, 1_997, 1, 0);
        expectFlow(rows, 0, 1, 1_996, 1_997);
        rows.test(0, 0, 1_000, 17, 490);
        expectFlow(rows, 0, 970, 1, 1);
        expectFlow(rows, 0, 985, 1, 2);
        expectFlow(rows, 0, 999, 1, 30);
        // Nothing is 0 over 1, be it for the flow of the test or for the pressure.
        rows.test(0, 0, 1_000, 0, 490);
        expectFlow(rows, 0, 700, 0, 1);
        expectFlow(rows, 0, 1_000, 0, 1);
    }

    private static void nothingAtRest() {
        Check.promise("0 when p is not below the one at rest");
        HydrantRows rows = withHydrants(1);
        rows.test(0, 0, 500, 800, 100);
        expectFlow(rows, 0, 499, 2, 1);
        expectFlow(rows, 0, 500, 0, 1);
        expectFlow(rows, 0, 501, 0, 1);
        expectFlow(rows, 0, 2_000, 0, 1);
        rows.test(0, 0, 0, 800, 0);
        expectFlow(rows, 0, 0, 0, 1);
        rows.test(0, 0, 2_000, 800, 2_000);
        expectFlow(rows, 0, 2_000, 0, 1);
    }

    private static void notToldBelowRest() {
        Check.promise("When rest and left are the same it can't be told below them");
        HydrantRows rows = withHydrants(2);
        rows.test(1, 0, 500, 800, 100);
        for (int flow : new int[] {0, 1, 20_000}) {
            rows.test(0, 0, 500, flow, 500);
            Check.refuses(NOT_TOLD, () -> rows.flow(0, 0, 0));
            Check.refuses(NOT_TOLD, () -> rows.flow(0, 499, 0));
            Check.refuses(NOT_TOLD, () -> rows.flow(0, 499, 1));
            expectFlow(rows, 0, 500, 0, 1);
            expectFlow(rows, 0, 501, 0, 1);
            Check.refuses(NOT_TOLD, () -> rows.both(0, 1, 499));
            Check.refuses(NOT_TOLD, () -> rows.both(1, 0, 499));
            Check.answers(0, () -> rows.both(0, 1, 500));
        }
        rows.test(0, 0, 500, 800, 499);
        expectFlow(rows, 0, 499, 800, 1);
    }

    private static void noTest() {
        Check.promise("(Without a test: IllegalStateException.)");
        HydrantRows rows = withHydrants(2);
        Check.refuses(STATE, () -> rows.flow(0, 0, 0));
        Check.refuses(STATE, () -> rows.flow(0, 2_000, 1));
        Check.refuses(STATE, () -> rows.sort(0));
        Check.refuses(STATE, () -> rows.both(0, 1, 2_000));
        rows.test(1, 0, 500, 800, 100);
        Check.refuses(STATE, () -> rows.flow(0, 0, 0));
        Check.refuses(STATE, () -> rows.both(0, 1, 0));
        Check.refuses(STATE, () -> rows.both(1, 0, 0));
        rows.test(0, 0, 500, 0, 100);
        expectFlow(rows, 0, 0, 0, 1);
        Check.answers(0, () -> rows.sort(0));
    }

    private static void expectClass(int due, int rest, int flow, int left) {
        HydrantRows rows = withHydrants(1);
        rows.test(0, 0, rest, flow, left);
        Check.answers(due, () -> rows.sort(0));
    }

    private static void classes() {
        Check.promise("0 below 500, 1 below 1,000, 2 below 1,500, 3 otherwise");
        expectClass(0, 600, 0, 200);
        expectClass(0, 600, 499, 200);
        expectClass(1, 600, 500, 200);
        expectClass(1, 600, 999, 200);
        expectClass(2, 600, 1_000, 200);
        expectClass(2, 600, 1_499, 200);
        expectClass(3, 600, 1_500, 200);
        expectClass(3, 600, 2_000, 200);
        expectClass(3, 600, 20_000, 200);
        // 20,000 times 1,800
        expectClass(3, 2_000, 20_000, 1_999);
    }

    private static void classRoundedDown() {
        Check.promise("the flow at 200 centibar, as a whole number rounded down");
        // A third of the flow of the test.
        expectClass(0, 201, 1_499, 198);
        expectClass(1, 201, 1_500, 198);
        expectClass(1, 201, 2_999, 198);
        expectClass(2, 201, 3_000, 198);
        expectClass(2, 201, 4_499, 198);
        expectClass(3, 201, 4_500, 198);
    }

    private static void classOfFlat() {
        Check.promise("The class. Likewise.");
        expectClass(0, 200, 20_000, 0);
        expectClass(3, 201, 20_000, 200);
        expectClass(0, 199, 20_000, 0);
        expectClass(0, 200, 20_000, 200);
        expectClass(0, 0, 20_000, 0);
        HydrantRows rows = withHydrants(1);
        rows.test(0, 0, 201, 20_000, 201);
        Check.refuses(NOT_TOLD, () -> rows.sort(0));
        rows.test(0, 0, 2_000, 0, 2_000);
        Check.refuses(NOT_TOLD, () -> rows.sort(0));
    }

    private static void defects() {
        Check.promise("it has no SEVERE defect; DEFECTS are 0 none, 1 small, 2 severe");
        HydrantRows rows = withHydrants(2);
        boolean[] usable = {true, true, false};
        for (int grade : new int[] {0, 1, 2, 1, 2, 0}) {
            rows.defect(0, grade);
            Check.answers(grade, () -> rows.hydrantAt(0, 2));
            Check.answers(usable[grade], () -> rows.usable(0, 0));
            Check.answers(usable[grade] ? 0 : 1, () -> rows.near(0, 0, 0, 0));
            Check.answers(0, () -> rows.hydrantAt(1, 2));
        }
    }

    private static void worksHaveBothDays() {
        Check.promise("from a day to another one, both themselves");
        HydrantRows rows = withHydrants(1);
        rows.works(0, 100, 102);
        boolean[] due = {true, false, false, false, true};
        for (int i = 0; i < due.length; i++) {
            int day = 99 + i;
            Check.answers(due[i], () -> rows.usable(0, day));
            Check.answers(due[i] ? 0 : -1, () -> rows.near(0, 0, day, 0));
        }
    }

    private static void threeWorks() {
        Check.promise("at most 3 times");
        HydrantRows rows = withHydrants(2);
        for (int i = 0; i < 3; i++) {
            int day = 10 * i;
            Check.answers(i, () -> rows.hydrantAt(0, 5));
            Check.done(() -> rows.works(0, day, day + 4));
        }
        Check.answers(3, () -> rows.hydrantAt(0, 5));
        Check.refusesDeed(NO_ROOM, () -> rows.works(0, 30, 34));
        Check.refusesDeed(NO_ROOM, () -> rows.works(0, 5, 9));
        Check.answers(3, () -> rows.hydrantAt(0, 5));
        Check.answers(true, () -> rows.usable(0, 30));
        for (int day : new int[] {0, 4, 10, 14, 20, 24}) {
            Check.answers(false, () -> rows.usable(0, day));
        }
        Check.answers(0, () -> rows.hydrantAt(1, 5));
        Check.done(() -> rows.works(1, 30, 34));
    }

    private static void worksShareNoDay() {
        Check.promise("none with a day of another one");
        int[][] meeting = {{100, 110}, {90, 100}, {110, 120}, {99, 111}, {101, 109}, {105, 105}, {100, 100}, {110, 110},
            {0, 99_999}};
        for (int[] days : meeting) {
            HydrantRows rows = withHydrants(1);
            rows.works(0, 100, 110);
            Check.refusesDeed(STATE, () -> rows.works(0, days[0], days[1]));
            Check.answers(1, () -> rows.hydrantAt(0, 5));
        }
        for (int[] days : new int[][] {{99, 99}, {0, 99}, {111, 111}, {111, 99_999}}) {
            HydrantRows rows = withHydrants(1);
            rows.works(0, 100, 110);
            Check.done(() -> rows.works(0, days[0], days[1]));
        }
        // The second and the third one are looked at too, and those of another hydrant are not.
        HydrantRows rows = withHydrants(2);
        rows.works(0, 10, 20);
        rows.works(0, 30, 40);
        Check.refusesDeed(STATE, () -> rows.works(0, 40, 50));
        rows.works(0, 50, 60);
        Check.refusesDeed(STATE, () -> rows.works(0, 60, 70));
        Check.done(() -> rows.works(1, 0, 99_999));
    }

    private static void worksOfOneDay() {
        Check.promise("the days, or the second one below the first");
        HydrantRows rows = withHydrants(1);
        Check.refusesDeed(OUTSIDE, () -> rows.works(0, 6, 5));
        Check.refusesDeed(OUTSIDE, () -> rows.works(0, 99_999, 0));
        Check.done(() -> rows.works(0, 5, 5));
        Check.answers(true, () -> rows.usable(0, 4));
        Check.answers(false, () -> rows.usable(0, 5));
        Check.answers(true, () -> rows.usable(0, 6));
    }

    private static void privateOnes() {
        Check.promise("it is not private (unless these are ALLOWED)");
        HydrantRows rows = new HydrantRows();
        rows.hydrant(0, 0, 0, 0);
        rows.hydrant(0, 0, 0, 1);
        rows.hydrant(0, 0, 0, 2);
        expectNear(rows, 0, 0, 0, 0, 2);
        rows.allow(false);
        expectNear(rows, 0, 0, 0, 0, 2);
        rows.allow(true);
        expectNear(rows, 0, 0, 0, 0, 1, 2);
        // Those that come later are allowed or not like the others.
        rows.hydrant(0, 0, 0, 1);
        Check.answers(true, () -> rows.usable(3, 0));
        rows.allow(false);
        Check.answers(false, () -> rows.usable(3, 0));
        expectNear(rows, 0, 0, 0, 0, 2);
    }

    private static void dryMonths() {
        Check.promise("an other water, its month is not DRY");
        HydrantRows rows = new HydrantRows();
        rows.hydrant(0, 0, 0, 2);
        rows.hydrant(0, 0, 0, 2);
        for (int month = 0; month < 12; month++) {
            rows.season(0, month, true);
        }
        for (int month = 0; month < 12; month++) {
            int day = 30 * month;
            Check.answers(false, () -> rows.usable(0, day));
            Check.answers(true, () -> rows.usable(1, day));
        }
        rows.season(0, 0, true);
        Check.answers(false, () -> rows.usable(0, 0));
        rows.season(0, 0, false);
        rows.season(0, 11, false);
        rows.season(1, 5, false);
        Check.answers(true, () -> rows.usable(0, 29));
        Check.answers(false, () -> rows.usable(0, 30));
        Check.answers(false, () -> rows.usable(0, 329));
        Check.answers(true, () -> rows.usable(0, 330));
        Check.answers(true, () -> rows.usable(1, 150));
        for (int kind : new int[] {0, 1}) {
            HydrantRows other = new HydrantRows();
            other.hydrant(0, 0, 0, kind);
            Check.refusesDeed(STATE, () -> other.season(0, 0, true));
            Check.refusesDeed(STATE, () -> other.season(0, 11, false));
        }
    }

    private static void usableForAllReasons() {
        Check.promise("A hydrant is USABLE on a day when");
        HydrantRows rows = new HydrantRows();
        rows.hydrant(0, 0, 0, 2);
        rows.hydrant(0, 0, 0, 1);
        // Each reason alone is enough, and the last one to go makes it usable.
        rows.defect(0, 2);
        rows.season(0, 0, true);
        rows.works(0, 0, 10);
        Check.answers(false, () -> rows.usable(0, 0));
        rows.defect(0, 0);
        Check.answers(false, () -> rows.usable(0, 0));
        Check.answers(false, () -> rows.usable(0, 11));
        rows.season(0, 0, false);
        Check.answers(false, () -> rows.usable(0, 10));
        Check.answers(true, () -> rows.usable(0, 11));
        rows.defect(1, 2);
        rows.allow(true);
        Check.answers(false, () -> rows.usable(1, 0));
        rows.defect(1, 1);
        Check.answers(true, () -> rows.usable(1, 0));
    }

    /** Flows, classes, both, rounds and what is overdue are told of hydrants that are not usable as of others. */
    private static void usableWhereNamed() {
        Check.promise("NEAR .. are the usable ones, the flows of its usable hydrants: nothing else asks for it");
        HydrantRows rows = new HydrantRows();
        int[] kinds = {0, 0, 1, 2};
        for (int i = 0; i < kinds.length; i++) {
            rows.hydrant(i + 1, 0, i, kinds[i]);
            rows.test(i, 0, 400, 1_000, 200);
        }
        rows.defect(0, 2);
        rows.works(1, 0, 99_999);
        for (int month = 0; month < 12; month++) {
            rows.season(3, month, true);
        }
        expectNear(rows, 0, 0, 0);
        Check.answers(0, () -> rows.supply(0, 0, 0, 200, 200_000));
        for (int i = 0; i < kinds.length; i++) {
            int hydrant = i;
            int next = (i + 1) % kinds.length;
            Check.answers(false, () -> rows.usable(hydrant, 0));
            expectFlow(rows, hydrant, 200, 1_000, 1);
            Check.answers(2, () -> rows.sort(hydrant));
            Check.answers(2_000, () -> rows.both(hydrant, next, 200));
            Check.answers(2 * (hydrant + 1), () -> rows.round(hydrant, 1));
        }
        Check.answers(8, () -> rows.round(stops(3, 2, 1, 0), 4));
        expectStops(rows, 0, 1, 2, 3);
        expectOverdue(rows, 1, 0, 0, 1, 2, 3);
    }

    private static void hoseWithoutSign() {
        Check.promise("the difference of x and that of y together (without sign)");
        int[][] ways = {{3, 4}, {3, -4}, {-3, 4}, {-3, -4}, {7, 0}, {0, -7}};
        for (int[] way : ways) {
            HydrantRows rows = new HydrantRows();
            rows.hydrant(100 + way[0], -100 + way[1], 0, 0);
            rows.test(0, 0, 500, 9, 0);
            Check.answers(0, () -> rows.supply(100, -100, 0, 0, 6));
            Check.answers(9, () -> rows.supply(100, -100, 0, 0, 7));
            Check.answers(14, () -> withPlaces(way).round(0L, 1));
        }
    }

    private static void nearByHoseThenNumber() {
        Check.promise("the shortest hose first, of the same by numbers");
        HydrantRows rows = withPlaces(new int[][] {{0, 5}, {3, 1}, {-5, 0}, {2, -3}, {0, 4}, {-2, 2}, {0, 0}, {6, 0}});
        expectNear(rows, 0, 0, 0, 6, 1, 4, 5, 0, 2, 3, 7);
        expectNear(rows, 0, 5, 0, 0, 4, 5, 6, 1, 2, 3, 7);
        HydrantRows backwards = new HydrantRows();
        for (int i = 0; i < 40; i++) {
            backwards.hydrant(39 - i, 0, 0, 0);
        }
        for (int i = 0; i < 40; i++) {
            int at = i;
            Check.answers(39 - i, () -> backwards.near(0, 0, 0, at));
            Check.answers(i, () -> backwards.near(39, 0, 0, at));
        }
    }

    private static void nearEnds() {
        Check.promise("-1 when there are not so many");
        HydrantRows rows = new HydrantRows();
        Check.answers(-1, () -> rows.near(0, 0, 0, 0));
        rows.hydrant(50_000, 50_000, 0, 0);
        Check.answers(0, () -> rows.near(-50_000, -50_000, 0, 0));
        Check.answers(-1, () -> rows.near(-50_000, -50_000, 0, 1));
        rows.defect(0, 2);
        Check.answers(-1, () -> rows.near(0, 0, 0, 0));
        HydrantRows full = withHydrants(40);
        Check.answers(0, () -> full.near(0, 0, 0, 0));
        Check.answers(39, () -> full.near(0, 0, 0, 39));
        Check.answers(-1, () -> full.near(0, 0, 0, 40));
        Check.answers(-1, () -> full.near(0, 0, 0, Integer.MAX_VALUE));
        full.defect(0, 2);
        Check.answers(39, () -> full.near(0, 0, 0, 38));
        Check.answers(-1, () -> full.near(0, 0, 0, 39));
        // Behind a shorter row nothing is left of a longer one.
        for (int number = 2; number < 40; number++) {
            full.defect(number, 2);
        }
        Check.answers(1, () -> full.near(0, 0, 0, 0));
        for (int i = 1; i <= 40; i++) {
            int at = i;
            Check.answers(-1, () -> full.near(0, 0, 0, at));
        }
    }

    /** Hydrants 0 and 1 on these mains: their flows at 0 centibar, and a half of them at 1. */
    private static HydrantRows two(int main, int otherMain, int flow, int otherFlow) {
        HydrantRows rows = new HydrantRows();
        rows.hydrant(0, 0, main, 0);
        rows.hydrant(0, 0, otherMain, 0);
        rows.test(0, 0, 2, flow, 0);
        rows.test(1, 0, 2, otherFlow, 0);
        return rows;
    }

    private static void bothRoundedDown() {
        Check.promise("the sum of their flows at it (whole numbers, each rounded down)");
        Check.answers(0, () -> two(0, 1, 1, 1).both(0, 1, 1));
        Check.answers(1, () -> two(0, 1, 2, 1).both(0, 1, 1));
        Check.answers(2, () -> two(0, 1, 3, 3).both(0, 1, 1));
        Check.answers(2, () -> two(0, 1, 3, 2).both(1, 0, 1));
        Check.answers(6, () -> two(0, 1, 3, 3).both(0, 1, 0));
        // On one main too: 3 and not 4 (of 2 1/2 and 2 1/2 come 2 and 2).
        Check.answers(3, () -> two(5, 5, 5, 5).both(0, 1, 1));
    }

    private static void threeQuarters() {
        Check.promise("on one main three quarters of that, rounded down");
        int[] due = {0, 0, 1, 2, 3, 3, 4, 5, 6};
        for (int sum = 0; sum < due.length; sum++) {
            HydrantRows rows = two(7, 7, sum, 0);
            Check.answers(due[sum], () -> rows.both(0, 1, 0));
            Check.answers(due[sum], () -> rows.both(1, 0, 0));
        }
    }

    private static void bothWithinLimit() {
        Check.promise("and not more than the main's limit");
        for (int main : new int[] {0, 19}) {
            HydrantRows rows = two(main, main, 600, 200);
            rows.limit(main == 0 ? 1 : 18, 5);
            for (int limit : new int[] {601, 600, 599, 1, 0}) {
                rows.limit(main, limit);
                Check.answers(Math.min(limit, 600), () -> rows.both(0, 1, 0));
            }
        }
        // The limit at first is one as well: three quarters of 26,668 are 20,001.
        Check.answers(20_000, () -> two(0, 0, 13_334, 13_334).both(0, 1, 0));
        Check.answers(20_000, () -> two(0, 0, 13_334, 13_333).both(0, 1, 0));
        Check.answers(19_999, () -> two(0, 0, 13_333, 13_333).both(0, 1, 0));
    }

    private static void bothOnTwoMains() {
        Check.promise("BOTH of two hydrants at a pressure give the sum");
        HydrantRows rows = two(0, 19, 20_000, 20_000);
        Check.answers(40_000, () -> rows.both(0, 1, 0));
        rows.limit(0, 0);
        rows.limit(19, 0);
        Check.answers(40_000, () -> rows.both(0, 1, 0));
        rows.test(0, 0, 2_000, 20_000, 1_999);
        rows.test(1, 0, 2_000, 20_000, 1_999);
        Check.answers(80_000_000, () -> rows.both(0, 1, 0));
    }

    private static void supplyRoundedDown() {
        Check.promise("the flows of its usable hydrants (whole numbers, each rounded down)");
        Check.answers(2, () -> two(0, 0, 3, 3).supply(0, 0, 0, 1, 0));
        Check.answers(2, () -> two(0, 1, 3, 3).supply(0, 0, 0, 1, 0));
        Check.answers(6, () -> two(0, 0, 3, 3).supply(0, 0, 0, 0, 0));
        Check.answers(0, () -> two(0, 0, 1, 1).supply(0, 0, 0, 1, 0));
        Check.answers(0, () -> two(0, 0, 9, 9).supply(0, 0, 0, 2, 0));
    }

    private static void supplyWithinHose() {
        Check.promise("within that hose");
        HydrantRows rows = new HydrantRows();
        rows.hydrant(0, 0, 0, 0);
        rows.hydrant(50_000, 50_000, 0, 0);
        rows.hydrant(0, 1, 0, 0);
        rows.test(0, 0, 2, 1, 0);
        rows.test(1, 0, 2, 10, 0);
        rows.test(2, 0, 2, 100, 0);
        Check.answers(1, () -> rows.supply(0, 0, 0, 0, 0));
        Check.answers(101, () -> rows.supply(0, 0, 0, 0, 1));
        Check.answers(101, () -> rows.supply(0, 0, 0, 0, 99_999));
        Check.answers(111, () -> rows.supply(0, 0, 0, 0, 100_000));
        Check.answers(101, () -> rows.supply(-50_000, -50_000, 0, 0, 199_999));
        Check.answers(111, () -> rows.supply(-50_000, -50_000, 0, 0, 200_000));
    }

    private static void supplyWithinLimits() {
        Check.promise("the sum over mains, each main not more than its limit");
        HydrantRows rows = two(0, 19, 300, 400);
        rows.hydrant(0, 0, 19, 0);
        rows.test(2, 0, 2, 500, 0);
        int[] limits = {901, 900, 899, 1, 0};
        int[] due = {1_200, 1_200, 1_199, 301, 300};
        for (int i = 0; i < limits.length; i++) {
            rows.limit(19, limits[i]);
            Check.answers(due[i], () -> rows.supply(0, 0, 0, 0, 0));
        }
        rows.limit(0, 299);
        Check.answers(299, () -> rows.supply(0, 0, 0, 0, 0));
        HydrantRows full = new HydrantRows();
        for (int i = 0; i < 40; i++) {
            full.hydrant(0, 0, i % 20, 0);
            full.test(i, 0, 2_000, 20_000, 1_999);
        }
        Check.answers(400_000, () -> full.supply(0, 0, 0, 0, 0));
        Check.answers(400_000, () -> full.supply(0, 0, 0, 1_999, 0));
        Check.answers(0, () -> full.supply(0, 0, 0, 2_000, 0));
    }

    private static void supplyOfTold() {
        Check.promise("(with a test whose flow can be told)");
        HydrantRows rows = two(0, 0, 30, 40);
        rows.hydrant(0, 0, 0, 0);
        Check.answers(70, () -> rows.supply(0, 0, 0, 0, 0));
        rows.test(2, 0, 100, 5_000, 100);
        Check.answers(70, () -> rows.supply(0, 0, 0, 0, 0));
        Check.answers(0, () -> rows.supply(0, 0, 0, 99, 0));
        Check.answers(0, () -> rows.supply(0, 0, 0, 100, 0));
        rows.test(2, 0, 100, 5_000, 99);
        Check.answers(5_000, () -> rows.supply(0, 0, 0, 99, 0));
        Check.answers(0, () -> new HydrantRows().supply(0, 0, 0, 0, 200_000));
        Check.answers(0, () -> withHydrants(40).supply(0, 0, 0, 0, 200_000));
    }

    private static void emptyRound() {
        Check.promise("A ROUND goes from the place 0, 0 to some hydrants and back: to none");
        HydrantRows rows = new HydrantRows();
        Check.answers(0, () -> rows.round(0L, 0));
        expectStops(rows);
        rows.hydrant(10, 0, 0, 0);
        Check.answers(20, () -> rows.round(0L, 1));
        Check.answers(0, () -> rows.round(0L, 0));
        expectStops(rows);
    }

    private static void roundOfOne() {
        Check.promise("A ROUND goes from the place 0, 0 to some hydrants and back: to one");
        HydrantRows rows = withPlaces(new int[][] {{0, 0}, {1, 0}, {50_000, -50_000}});
        int[] due = {0, 2, 200_000};
        for (int i = 0; i < due.length; i++) {
            int number = i;
            Check.answers(due[i], () -> rows.round(stops(number), 1));
            expectStops(rows, number);
        }
    }

    private static void roundOfSix() {
        Check.promise("at most 6, none twice");
        HydrantRows rows = new HydrantRows();
        for (int i = 0; i < 40; i++) {
            rows.hydrant(i, 0, 0, 0);
        }
        Check.answers(78, () -> rows.round(stops(34, 35, 36, 37, 38, 39), 6));
        expectStops(rows, 34, 35, 36, 37, 38, 39);
        Check.refuses(OUTSIDE, () -> rows.round(stops(34, 35, 36, 37, 38, 39), 7));
        for (int first = 0; first < 6; first++) {
            for (int second = first + 1; second < 6; second++) {
                int[] told = {10, 11, 12, 13, 14, 15};
                told[second] = told[first];
                Check.refuses(OUTSIDE, () -> rows.round(stops(told), 6));
            }
        }
        expectStops(rows, 34, 35, 36, 37, 38, 39);
        Check.answers(20, () -> rows.round(stops(10, 10), 1));
    }

    private static void roundLeastOfAll() {
        Check.promise("by hoses' lengths; the least of all orders");
        // The nearest first would be 1 up, 3 down, 6 up, 12 down, ..; the least way goes up once and down once.
        HydrantRows rows = withPlaces(new int[][] {{0, 1}, {0, -2}, {0, 4}, {0, -8}, {0, 16}, {0, -32}});
        Check.answers(96, () -> rows.round(stops(0, 1, 2, 3, 4, 5), 6));
        expectStops(rows, 0, 2, 4, 1, 3, 5);
        // The farthest corners: 100,000 to the first, three edges of the square, 100,000 back.
        HydrantRows corners = withPlaces(
            new int[][] {{-50_000, -50_000}, {50_000, 50_000}, {-50_000, 50_000}, {50_000, -50_000}});
        Check.answers(500_000, () -> corners.round(stops(0, 1, 2, 3), 4));
        expectStops(corners, 0, 2, 1, 3);
        // Two more inside make the least round longer. (What is due comes from a script that tries all orders.)
        HydrantRows six = withPlaces(new int[][] {{25_000, 25_000}, {-25_000, -25_000}, {50_000, -50_000},
            {50_000, 50_000}, {-50_000, -50_000}, {-50_000, 50_000}});
        Check.answers(550_000, () -> six.round(stops(5, 4, 3, 2, 1, 0), 6));
        expectStops(six, 0, 2, 3, 5, 4, 1);
    }

    private static void roundFirstByNumbers() {
        Check.promise("of these the first by numbers of hydrants, one after the other");
        HydrantRows same = withHydrants(40);
        Check.answers(0, () -> same.round(stops(5, 4, 3, 2, 1, 0), 6));
        expectStops(same, 0, 1, 2, 3, 4, 5);
        Check.answers(0, () -> same.round(stops(30, 9, 39), 3));
        expectStops(same, 9, 30, 39);
        // Two ways round a square: the smaller neighbour of the start goes first, whatever was told first.
        HydrantRows square = withPlaces(new int[][] {{10, 10}, {0, 10}, {10, 0}});
        for (long told : new long[] {stops(0, 1, 2), stops(1, 0, 2), stops(2, 0, 1), stops(2, 1, 0)}) {
            Check.answers(40, () -> square.round(told, 3));
            // Orders that begin with 0 are longer: they cross the square twice.
            expectStops(square, 1, 0, 2);
        }
        // On one line each may be met on the way out or back: first by numbers is the farthest, 0, at once.
        HydrantRows line = withPlaces(new int[][] {{40, 0}, {10, 0}, {30, 0}, {20, 0}});
        Check.answers(80, () -> line.round(stops(1, 2, 3, 0), 4));
        expectStops(line, 0, 2, 3, 1);
    }

    private static void roundBitsBehind() {
        Check.promise("(hydrant i in bits 6 i .. 6 i + 5)");
        HydrantRows rows = withPlaces(new int[][] {{1, 0}, {2, 0}, {3, 0}, {4, 0}, {5, 0}, {6, 0}});
        for (int n = 0; n <= 6; n++) {
            int count = n;
            long behind = -1L << 6 * n;
            Check.answers(2 * n, () -> rows.round(stops(0, 1, 2, 3, 4, 5) | behind, count));
            Check.answers(n - 1, () -> count == 0 ? -1 : rows.stop(count - 1));
            Check.answers(-1, () -> rows.stop(count));
        }
        HydrantRows forty = withHydrants(40);
        for (int number = 0; number < 40; number++) {
            int asked = number;
            Check.answers(0, () -> forty.round(asked, 1));
            expectStops(forty, asked);
        }
        for (int number = 40; number < 64; number++) {
            int asked = number;
            Check.refuses(UNKNOWN, () -> forty.round(asked, 1));
        }
    }

    private static void stopsBehindRound() {
        Check.promise("The i-th hydrant of the latest round; -1 behind it");
        HydrantRows rows = withPlaces(new int[][] {{1, 0}, {2, 0}, {3, 0}, {4, 0}, {5, 0}, {6, 0}});
        Check.answers(-1, () -> rows.stop(0));
        for (int n = 6; n >= 0; n--) {
            rows.round(stops(0, 1, 2, 3, 4, 5), n);
            for (int i = 0; i <= 7; i++) {
                int at = i;
                Check.answers(i < n ? i : -1, () -> rows.stop(at));
            }
            Check.answers(-1, () -> rows.stop(Integer.MAX_VALUE));
            Check.refuses(OUTSIDE, () -> rows.stop(-1));
        }
    }

    private static void roundForgotten() {
        Check.promise("the latest round");
        HydrantRows rows = withPlaces(new int[][] {{1, 0}, {2, 0}, {3, 0}, {4, 0}, {5, 0}, {60, 0}, {70, 0}});
        // A shorter round to far hydrants has nothing of the longer one to near hydrants before it.
        Check.answers(120, () -> rows.round(stops(0, 1, 2, 3, 4, 5), 6));
        Check.answers(140, () -> rows.round(stops(6, 5), 2));
        expectStops(rows, 5, 6);
        Check.answers(140, () -> rows.round(stops(6), 1));
        expectStops(rows, 6);
        // The same round again, and other calls in between, change nothing.
        Check.answers(140, () -> rows.round(stops(6), 1));
        rows.near(0, 0, 0, 0);
        rows.overdue(0, 0, 0);
        rows.supply(0, 0, 0, 0, 0);
        rows.hydrant(0, 0, 0, 0);
        rows.defect(6, 2);
        expectStops(rows, 6);
    }

    private static void overdueByOneDay() {
        Check.promise("whose test that counts is more than so many days (0 .. 9,999) ago on a day");
        HydrantRows rows = withHydrants(1);
        rows.test(0, 1_000, 1, 1, 1);
        expectOverdue(rows, 1_000, 0);
        expectOverdue(rows, 1_001, 0, 0);
        expectOverdue(rows, 1_001, 1);
        expectOverdue(rows, 10_999, 9_999);
        expectOverdue(rows, 11_000, 9_999, 0);
        // The one that counts is looked at, not the one told last.
        rows.test(0, 500, 1, 1, 1);
        expectOverdue(rows, 1_001, 1);
        HydrantRows ends = withHydrants(1);
        ends.test(0, 0, 1, 1, 1);
        expectOverdue(ends, 99_999, 9_999, 0);
        expectOverdue(ends, 0, 0);
        expectOverdue(ends, 1, 0, 0);
    }

    private static void overdueToCome() {
        Check.promise("(One whose test is to come by that day is not.)");
        HydrantRows rows = withHydrants(2);
        rows.test(0, 100, 1, 1, 1);
        rows.test(0, 501, 1, 1, 1);
        rows.test(1, 99_999, 1, 1, 1);
        expectOverdue(rows, 500, 0);
        expectOverdue(rows, 501, 0);
        expectOverdue(rows, 502, 0, 0);
        expectOverdue(rows, 0, 0);
        expectOverdue(rows, 0, 9_999);
        expectOverdue(rows, 99_999, 0, 0);
    }

    private static void overdueOrder() {
        Check.promise("these first by numbers, then the earlier day first, of the same by numbers");
        HydrantRows rows = withHydrants(7);
        rows.test(0, 20, 1, 1, 1);
        rows.test(5, 10, 1, 1, 1);
        rows.test(2, 10, 1, 1, 1);
        rows.test(4, 0, 1, 1, 1);
        rows.test(3, 11, 1, 1, 1);
        expectOverdue(rows, 100, 0, 1, 6, 4, 2, 5, 3, 0);
        // One never tested comes before one of day 0, whatever their numbers.
        rows.test(1, 0, 1, 1, 1);
        expectOverdue(rows, 100, 0, 6, 1, 4, 2, 5, 3, 0);
        rows.test(4, 20, 1, 1, 1);
        expectOverdue(rows, 100, 0, 6, 1, 2, 5, 3, 0, 4);
    }

    private static void overdueEnds() {
        Check.promise("or that has none; -1 when there are not so many");
        Check.answers(-1, () -> new HydrantRows().overdue(99_999, 0, 0));
        HydrantRows rows = withHydrants(40);
        Check.answers(0, () -> rows.overdue(0, 9_999, 0));
        Check.answers(39, () -> rows.overdue(0, 9_999, 39));
        Check.answers(-1, () -> rows.overdue(0, 9_999, 40));
        Check.answers(-1, () -> rows.overdue(0, 9_999, Integer.MAX_VALUE));
        rows.test(0, 0, 1, 1, 1);
        Check.answers(1, () -> rows.overdue(0, 0, 0));
        Check.answers(-1, () -> rows.overdue(0, 0, 39));
        Check.answers(0, () -> rows.overdue(1, 0, 39));
        // Behind a shorter row nothing is left of a longer one.
        for (int number = 2; number < 40; number++) {
            rows.test(number, 0, 1, 1, 1);
        }
        Check.answers(1, () -> rows.overdue(0, 0, 0));
        for (int i = 1; i <= 40; i++) {
            int at = i;
            Check.answers(-1, () -> rows.overdue(0, 0, at));
        }
    }

    private static void history() {
        Check.promise("Of test i (of all, 0 first) 0 its hydrant, 1 the day, 2 rest, 3 flow, 4 left");
        HydrantRows rows = withHydrants(40);
        int[][] told = {{39, 0, 2_000, 0, 0}, {0, 99_999, 0, 20_000, 0}, {39, 1, 2_000, 1, 2_000}};
        for (int[] test : told) {
            rows.test(test[0], test[1], test[2], test[3], test[4]);
        }
        for (int i = 0; i < told.length; i++) {
            for (int what = 0; what < 5; what++) {
                int test = i;
                int asked = what;
                Check.answers(told[i][what], () -> rows.testAt(test, asked));
            }
        }
        Check.refuses(UNKNOWN, () -> rows.testAt(3, 0));
    }

    private static void newObject() {
        Check.promise("No hydrants; private ones are not allowed.");
        HydrantRows rows = new HydrantRows();
        Check.refuses(UNKNOWN, () -> rows.test(0, 0, 0, 0, 0));
        Check.refuses(UNKNOWN, () -> rows.flow(0, 0, 0));
        Check.refuses(UNKNOWN, () -> rows.sort(0));
        Check.refusesDeed(UNKNOWN, () -> rows.defect(0, 0));
        Check.refusesDeed(UNKNOWN, () -> rows.works(0, 0, 0));
        Check.refusesDeed(UNKNOWN, () -> rows.season(0, 0, true));
        Check.refuses(UNKNOWN, () -> rows.usable(0, 0));
        Check.answers(-1, () -> rows.near(0, 0, 0, 0));
        Check.refuses(UNKNOWN, () -> rows.both(0, 1, 0));
        Check.answers(0, () -> rows.supply(0, 0, 0, 0, 0));
        Check.refuses(UNKNOWN, () -> rows.round(0L, 1));
        Check.answers(-1, () -> rows.stop(0));
        Check.answers(-1, () -> rows.overdue(0, 0, 0));
        Check.refuses(UNKNOWN, () -> rows.testAt(0, 0));
        Check.refuses(UNKNOWN, () -> rows.hydrantAt(0, 0));
        Check.done(() -> rows.limit(19, 0));
        Check.answers(0, () -> rows.hydrant(0, 0, 0, 1));
        Check.answers(false, () -> rows.usable(0, 0));
    }

    private static void newHydrant() {
        Check.promise("Of a hydrant .. 2 its defect, 3 the test that counts (-1), 4 how many tests, 5 how many works");
        HydrantRows rows = withHydrants(40);
        int[] due = {0, 0, 0, -1, 0, 0};
        for (int what = 0; what < due.length; what++) {
            int asked = what;
            Check.answers(due[what], () -> rows.hydrantAt(0, asked));
            Check.answers(due[what], () -> rows.hydrantAt(39, asked));
        }
        rows.test(39, 5, 1, 1, 1);
        rows.test(39, 4, 1, 1, 1);
        rows.works(39, 0, 0);
        rows.defect(39, 2);
        int[] later = {0, 0, 2, 0, 2, 1};
        for (int what = 0; what < due.length; what++) {
            int asked = what;
            Check.answers(due[what], () -> rows.hydrantAt(0, asked));
            Check.answers(later[what], () -> rows.hydrantAt(39, asked));
        }
    }
}
