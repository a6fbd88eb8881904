import java.util.ArrayList;
import java.util.List;
import java.util.function.Consumer;
import java.util.function.Function;

/**
 * A refused call leaves all answers as they were: after each one, in a small, an ordinary and a full object, every
 * answer is compared with that of an object on which the call was never made. So it is for calls that only ask.
 */
public final class UnchangedTest extends Examples {
    /** What an object answers to later calls is free, so the questions are spread over objects told alike. */
    private static final int MOST_CALLS = 512;
    private static final int MOST_HYDRANTS = 40;
    private static final int MOST_TESTS = 100;

    private final String scene;
    private final List<Consumer<HydrantRows>> tellings = new ArrayList<>();
    private final List<List<Function<HydrantRows, Object>>> questions = new ArrayList<>();
    private final List<List<String>> due = new ArrayList<>();
    private int hydrants = 0;
    private int tests = 0;

    private UnchangedTest(String scene) {
        this.scene = scene;
    }

    public static void main(String[] args) {
        UnchangedTest empty = new UnchangedTest("empty");
        empty.askEverything();
        empty.refusedAnywhere();
        empty.refusedWithoutHydrants();

        UnchangedTest town = new UnchangedTest("town");
        town.tellTown();
        town.askEverything();
        town.refusedAnywhere();
        town.refusedOfTests();
        town.refusedOfHydrants();
        town.refusedRounds();
        town.onlyAsking();

        UnchangedTest full = new UnchangedTest("full");
        full.tellFull();
        full.askEverything();
        full.refusedAnywhere();
        full.refusedWithoutRoom();
        full.onlyAsking();
        Check.end();
    }

    private void tell(Consumer<HydrantRows> call) {
        tellings.add(call);
    }

    private void tellHydrant(int x, int y, int main, int kind) {
        tell(rows -> rows.hydrant(x, y, main, kind));
        hydrants++;
    }

    private void tellTest(int hydrant, int day, int rest, int flow, int left) {
        tell(rows -> rows.test(hydrant, day, rest, flow, left));
        tests++;
    }

    /** 0 and 1 public and tested on one main, 2 private, 3 a pond, 4 tested flat, 5 never tested. */
    private void tellTown() {
        tellHydrant(10, 0, 3, 0);
        tellHydrant(0, -20, 3, 0);
        tellHydrant(-5, 5, 4, 1);
        tellHydrant(7, 7, 5, 2);
        tellHydrant(1, 2, 6, 0);
        tellHydrant(-30, 40, 7, 0);
        tellTest(0, 50, 600, 1_000, 200);
        tellTest(1, 60, 600, 1_500, 100);
        tellTest(2, 70, 500, 700, 200);
        tellTest(3, 80, 500, 2_000, 300);
        tellTest(4, 90, 400, 900, 400);
        tellTest(0, 40, 700, 1_100, 300);
        tell(rows -> rows.limit(3, 1_800));
        tell(rows -> rows.allow(true));
        tell(rows -> rows.defect(1, 1));
        tell(rows -> rows.works(0, 10, 20));
        tell(rows -> rows.works(0, 22, 30));
        tell(rows -> rows.season(3, 4, true));
        tell(rows -> rows.round(stops(5, 1, 3), 3));
    }

    /** 40 hydrants, two on each main, 100 tests, three works at hydrants 0 .. 9. */
    private void tellFull() {
        for (int i = 0; i < MOST_HYDRANTS; i++) {
            tellHydrant(37 * i % 41 - 20, 53 * i % 61 - 30, i % 20, i % 3);
        }
        for (int i = 0; i < MOST_TESTS; i++) {
            tellTest(i % 39, i % 10 * 100, 600 + i, 15_000 + i, 200 + i);
        }
        for (int i = 0; i < 10; i++) {
            int hydrant = i;
            tell(rows -> rows.works(hydrant, 10, 20));
            tell(rows -> rows.works(hydrant, 30, 40));
            tell(rows -> rows.works(hydrant, 50, 60));
        }
        tell(rows -> rows.round(stops(39, 2, 17, 8, 11, 30), 6));
    }

    private HydrantRows told() {
        HydrantRows rows = new HydrantRows();
        for (Consumer<HydrantRows> telling : tellings) {
            telling.accept(rows);
        }
        return rows;
    }

    private void askDeed(List<Function<HydrantRows, Object>> asked, Consumer<HydrantRows> deed) {
        asked.add(rows -> {
            deed.accept(rows);
            return "done";
        });
    }

    private void askEverything() {
        List<Function<HydrantRows, Object>> asked = new ArrayList<>();
        askStops(asked);
        askHydrants(asked);
        askFlows(asked);
        askTests(asked);
        askRows(asked);
        askSums(asked);
        int room = MOST_CALLS - tellings.size() - 1;
        for (int from = 0; from < asked.size(); from += room) {
            questions.add(asked.subList(from, Math.min(from + room, asked.size())));
        }
        questions.add(whatComesNext());
        for (List<Function<HydrantRows, Object>> part : questions) {
            due.add(answers(told(), part));
        }
    }

    private void askStops(List<Function<HydrantRows, Object>> asked) {
        for (int i = 0; i <= 6; i++) {
            int at = i;
            asked.add(rows -> rows.stop(at));
        }
    }

    private void askHydrants(List<Function<HydrantRows, Object>> asked) {
        for (int i = 0; i < MOST_HYDRANTS; i++) {
            int number = i;
            for (int what = 0; what < 6; what++) {
                int of = what;
                asked.add(rows -> rows.hydrantAt(number, of));
            }
            for (int day : new int[] {0, 15, 25, 35, 125, 99_999}) {
                asked.add(rows -> rows.usable(number, day));
            }
        }
    }

    private void askFlows(List<Function<HydrantRows, Object>> asked) {
        for (int i = 0; i < MOST_HYDRANTS; i++) {
            int number = i;
            for (int pressure : new int[] {0, 350, 2_000}) {
                asked.add(rows -> rows.flow(number, pressure, 0));
                asked.add(rows -> rows.flow(number, pressure, 1));
            }
            asked.add(rows -> rows.sort(number));
        }
    }

    private void askTests(List<Function<HydrantRows, Object>> asked) {
        for (int i = 0; i < MOST_TESTS; i++) {
            int number = i;
            for (int what = 0; what < 5; what++) {
                int of = what;
                asked.add(rows -> rows.testAt(number, of));
            }
        }
    }

    private void askRows(List<Function<HydrantRows, Object>> asked) {
        for (int i = 0; i <= MOST_HYDRANTS; i++) {
            int at = i;
            asked.add(rows -> rows.near(0, 0, 0, at));
            asked.add(rows -> rows.near(-10, 10, 130, at));
            asked.add(rows -> rows.overdue(99_999, 100, at));
            asked.add(rows -> rows.overdue(100, 20, at));
        }
    }

    private void askSums(List<Function<HydrantRows, Object>> asked) {
        for (int i = 0; i < MOST_HYDRANTS; i++) {
            int number = i;
            asked.add(rows -> rows.both(number, (number + 20) % 40, 0));
            asked.add(rows -> rows.both(number, number + 1, 350));
            asked.add(rows -> rows.supply(0, 0, 0, 10 * number, 200_000));
            asked.add(rows -> rows.supply(0, 0, 15, 350, 2 * number));
        }
    }

    /** The numbers that are given next, and the room that is left. */
    private List<Function<HydrantRows, Object>> whatComesNext() {
        List<Function<HydrantRows, Object>> asked = new ArrayList<>();
        asked.add(rows -> rows.hydrant(9, 9, 9, 2));
        asked.add(rows -> rows.hydrant(8, 8, 8, 0));
        asked.add(rows -> rows.test(0, 33, 500, 333, 100));
        asked.add(rows -> rows.test(hydrants, 34, 500, 334, 100));
        for (int i = 0; i < 4; i++) {
            int day = 500 + i;
            askDeed(asked, rows -> rows.works(0, day, day));
            askDeed(asked, rows -> rows.works(hydrants, day, day));
        }
        asked.add(rows -> rows.testAt(tests, 3));
        asked.add(rows -> rows.testAt(tests + 1, 3));
        asked.add(rows -> rows.near(0, 0, 0, hydrants));
        askDeed(asked, rows -> rows.season(hydrants, 0, true));
        asked.add(rows -> rows.usable(hydrants, 0));
        asked.add(rows -> rows.usable(hydrants, 30));
        return asked;
    }

    private static List<String> answers(HydrantRows rows, List<Function<HydrantRows, Object>> asked) {
        List<String> answers = new ArrayList<>();
        for (Function<HydrantRows, Object> question : asked) {
            answers.add(Check.outcome(() -> question.apply(rows)));
        }
        return answers;
    }

    private void refused(String call, Consumer<HydrantRows> refused) {
        Check.promise(scene + ": " + call + " is refused");
        Check.answers(true, () -> Check.outcome(() -> refused.accept(told())).startsWith("throws."));
        unchangedBy(call, refused);
    }

    private void asking(String call, Consumer<HydrantRows> asking) {
        Check.promise(scene + ": " + call + " is answered");
        Check.done(() -> asking.accept(told()));
        unchangedBy(call, asking);
    }

    private void unchangedBy(String call, Consumer<HydrantRows> made) {
        Check.promise(scene + ": after " + call);
        for (int part = 0; part < questions.size(); part++) {
            HydrantRows rows = told();
            Check.outcome(() -> made.accept(rows));
            List<String> got = answers(rows, questions.get(part));
            for (int i = 0; i < got.size(); i++) {
                Check.compare(due.get(part).get(i), got.get(i));
            }
        }
    }

    private void refusedAnywhere() {
        refused("hydrant, no such main", rows -> rows.hydrant(1, 1, 20, 0));
        refused("hydrant, no such kind", rows -> rows.hydrant(1, 1, 1, 3));
        refused("hydrant, x", rows -> rows.hydrant(50_001, 1, 1, 0));
        refused("hydrant, y", rows -> rows.hydrant(1, -50_001, 1, 0));
        refused("limit, no such main", rows -> rows.limit(20, 5));
        refused("limit, main below 0", rows -> rows.limit(-1, 5));
        refused("limit, flow above", rows -> rows.limit(3, 20_001));
        refused("limit, flow below", rows -> rows.limit(3, -1));
        refused("test, no such hydrant", rows -> rows.test(40, 5, 500, 5, 100));
        refused("flow, no such hydrant", rows -> rows.flow(40, 0, 0));
        refused("sort, no such hydrant", rows -> rows.sort(40));
        refused("defect, no such hydrant", rows -> rows.defect(40, 2));
        refused("works, no such hydrant", rows -> rows.works(40, 1, 2));
        refused("season, no such hydrant", rows -> rows.season(40, 1, true));
        refused("usable, no such hydrant", rows -> rows.usable(40, 0));
        refused("near, x", rows -> rows.near(50_001, 0, 0, 0));
        refused("near, y", rows -> rows.near(0, 50_001, 0, 0));
        refused("near, day", rows -> rows.near(0, 0, 100_000, 0));
        refused("near, i", rows -> rows.near(0, 0, 0, -1));
        refused("both, no such other", rows -> rows.both(0, 40, 0));
        refused("both, they are one", rows -> rows.both(0, 0, 0));
        refused("supply, x", rows -> rows.supply(50_001, 0, 0, 0, 0));
        refused("supply, y", rows -> rows.supply(0, 50_001, 0, 0, 0));
        refused("supply, day", rows -> rows.supply(0, 0, -1, 0, 0));
        refused("supply, pressure", rows -> rows.supply(0, 0, 0, 2_001, 0));
        refused("supply, hose", rows -> rows.supply(0, 0, 0, 0, -1));
        refused("round, unknown", rows -> rows.round(stops(63), 1));
        refused("round, n above", rows -> rows.round(0L, 7));
        refused("round, n below", rows -> rows.round(0L, -1));
        refused("stop, i", rows -> rows.stop(-1));
        refused("overdue, day", rows -> rows.overdue(-1, 0, 0));
        refused("overdue, days", rows -> rows.overdue(0, 10_000, 0));
        refused("overdue, i", rows -> rows.overdue(0, 0, -1));
        refused("testAt, no such test", rows -> rows.testAt(100, 0));
        refused("testAt, no such what", rows -> rows.testAt(0, 5));
        refused("hydrantAt, no such hydrant", rows -> rows.hydrantAt(40, 0));
        refused("hydrantAt, no such what", rows -> rows.hydrantAt(0, 6));
    }

    private void refusedWithoutHydrants() {
        refused("test", rows -> rows.test(0, 5, 500, 5, 100));
        refused("defect", rows -> rows.defect(0, 2));
        refused("works", rows -> rows.works(0, 0, 99_999));
        refused("season", rows -> rows.season(0, 0, true));
        refused("round", rows -> rows.round(0L, 1));
    }

    private void refusedOfTests() {
        refused("test, of the next hydrant", rows -> rows.test(hydrants, 500, 500, 5, 100));
        refused("test, day above", rows -> rows.test(0, 100_000, 500, 5, 100));
        refused("test, day below", rows -> rows.test(0, -1, 500, 5, 100));
        refused("test, rest", rows -> rows.test(0, 500, 2_001, 5, 100));
        refused("test, flow", rows -> rows.test(0, 500, 500, 20_001, 100));
        refused("test, left", rows -> rows.test(0, 500, 500, 5, -1));
        refused("test, more left than at rest", rows -> rows.test(0, 500, 500, 5, 501));
        refused("test, more left, of one never tested", rows -> rows.test(5, 500, 500, 5, 501));
        refused("flow, no such what", rows -> rows.flow(0, 0, 2));
        refused("flow, pressure", rows -> rows.flow(0, 2_001, 0));
        refused("flow, no test", rows -> rows.flow(5, 0, 0));
        refused("flow, can't be told", rows -> rows.flow(4, 0, 0));
        refused("sort, no test", rows -> rows.sort(5));
        refused("sort, can't be told", rows -> rows.sort(4));
        refused("both, pressure", rows -> rows.both(0, 1, 2_001));
        refused("both, no test", rows -> rows.both(0, 5, 0));
        refused("both, can't be told", rows -> rows.both(0, 4, 0));
    }

    private void refusedOfHydrants() {
        refused("defect, above", rows -> rows.defect(0, 3));
        refused("defect, below", rows -> rows.defect(1, -1));
        refused("works, first day", rows -> rows.works(0, -1, 5));
        refused("works, second day", rows -> rows.works(0, 99_999, 100_000));
        refused("works, second day below the first", rows -> rows.works(0, 41, 40));
        refused("works, the last day of others", rows -> rows.works(0, 30, 100));
        refused("works, the first day of others", rows -> rows.works(0, 0, 10));
        refused("works, the gap and a day more", rows -> rows.works(0, 21, 22));
        refused("season, month above", rows -> rows.season(3, 12, true));
        refused("season, month below", rows -> rows.season(3, -1, true));
        refused("season, no more dry in no month", rows -> rows.season(3, 16, false));
        refused("season, of a public one", rows -> rows.season(0, 0, true));
        refused("season, of a private one", rows -> rows.season(2, 0, true));
        refused("usable, day", rows -> rows.usable(0, 100_000));
    }

    private void refusedRounds() {
        refused("round, the last unknown", rows -> rows.round(stops(0, 1, 2, 3, 4, 6), 6));
        refused("round, the first unknown", rows -> rows.round(stops(6, 1, 2, 3, 4, 5), 6));
        refused("round, one told twice", rows -> rows.round(stops(0, 2, 0), 3));
        refused("round, of seven", rows -> rows.round(stops(0, 1, 2, 3, 4, 5), 7));
        refused("round, of less than none", rows -> rows.round(stops(0, 1, 2, 3, 4, 5), -6));
    }

    private void refusedWithoutRoom() {
        refused("the 41st hydrant", rows -> rows.hydrant(0, 0, 0, 0));
        refused("the 101st test", rows -> rows.test(0, 99_999, 500, 5, 100));
        refused("the 101st test, the first of a hydrant", rows -> rows.test(39, 0, 500, 5, 100));
        refused("the fourth works", rows -> rows.works(0, 21, 29));
        refused("the fourth works, on a day of others", rows -> rows.works(9, 60, 70));
    }

    private void onlyAsking() {
        asking("flow", rows -> rows.flow(0, 0, 0));
        asking("sort", rows -> rows.sort(0));
        asking("usable", rows -> rows.usable(0, 0));
        asking("near", rows -> rows.near(0, 0, 0, 3));
        asking("both", rows -> rows.both(0, 1, 0));
        asking("supply", rows -> rows.supply(0, 0, 0, 0, 200_000));
        asking("stop", rows -> rows.stop(0));
        asking("overdue", rows -> rows.overdue(99_999, 0, 0));
        asking("testAt", rows -> rows.testAt(0, 0));
        asking("hydrantAt", rows -> rows.hydrantAt(0, 0));
    }
}
