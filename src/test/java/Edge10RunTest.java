/** The edges that promise 10 names. */
public final class Edge10RunTest {
    private static final Due DUE = new Due("Edges of promise 10: run");

    public static void main(String[] args) {
        DUE.sentence("Days run, 1 .. 100", Edge10RunTest::numbersOfDays);
        DUE.sentence("Answers which is the next one then", Edge10RunTest::nextOnes);
        DUE.sentence("NONE when these are not such", Edge10RunTest::refusedOnes);
        DUE.sentence("or would go beyond day 399", Edge10RunTest::lastDays);
        DUE.end();
    }

    private static void numbersOfDays() {
        for (int days : new int[] {1, 2, 99, 100}) {
            LeachRows x = new LeachRows(1);
            for (int day = 0; day < 102; day++) {
                x.rain(day, 1);
            }
            DUE.same("run(" + days + ")", x.run(days), days);
            DUE.same("out(0)", x.out(0), days);
        }
    }

    private static void nextOnes() {
        LeachRows x = new LeachRows(1);
        int next = 0;
        for (int days : new int[] {1, 100, 1, 99, 100, 2, 96, 1}) {
            next += days;
            DUE.same("run(" + days + ")", x.run(days), next);
            DUE.no("rain of the day before the next one", x.rain(next - 1, 1));
            DUE.same("rain of the next one, " + next, x.rain(next, 1), next < 400);
        }
    }

    private static void refused(int next, int days) {
        DUE.saysNone("at " + next + ": run(" + days + ")", () -> Fill.busyAt(next), x -> x.run(days));
    }

    private static void refusedOnes() {
        for (int next : new int[] {5, 150, 299}) {
            for (int days : new int[] {0, -1, -5, 101, 102, 396, Integer.MAX_VALUE, Integer.MIN_VALUE}) {
                refused(next, days);
            }
        }
        DUE.saysNone("new: run(0)", () -> Fill.flowing(7, 7), x -> x.run(0));
        DUE.saysNone("new: run(101)", () -> Fill.flowing(7, 7), x -> x.run(101));
        DUE.saysNone("new: run(-1)", () -> Fill.flowing(7, 7), x -> x.run(-1));
    }

    private static void lastDays() {
        for (int next : new int[] {300, 301, 350, 398, 399}) {
            int left = 400 - next;
            refused(next, left + 1);
            LeachRows x = Fill.emptyAt(next);
            x.rain(399, 6);
            DUE.same("at " + next + ": run(" + left + ")", x.run(left), 400);
            DUE.same("day 399 ran: out(0)", x.out(0), 6);
            DUE.same("no day behind it: run(1)", x.run(1), LeachRows.NONE);
            DUE.same("still none: run(1)", x.run(1), LeachRows.NONE);
        }
        for (int days : new int[] {0, 1, 2, 100}) {
            refused(400, days);
        }
    }
}
