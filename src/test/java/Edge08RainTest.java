/** The edges that promise 8 names. */
public final class Edge08RainTest {
    private static final Due DUE = new Due("Edges of promise 8: rain");

    public static void main(String[] args) {
        DUE.sentence("The rain of a day, 0 .. 399", Edge08RainTest::days);
        DUE.sentence("becomes 0 .. 1000000", Edge08RainTest::amounts);
        DUE.sentence("false when these are not such", Edge08RainTest::refusedOnes);
        DUE.sentence("or the day has run", Edge08RainTest::daysThatRan);
        DUE.end();
    }

    private static void days() {
        for (int day : new int[] {0, 1, 99, 100, 398, 399}) {
            LeachRows x = new LeachRows(1);
            DUE.yes("rain(" + day + ", 5)", x.rain(day, 5));
            int next = 0;
            while (next < day) {
                next = x.run(Math.min(100, day - next));
            }
            DUE.same("out(0) before day " + day, x.out(0), 0);
            x.run(1);
            DUE.same("out(0) behind day " + day, x.out(0), 5);
        }
    }

    private static void amounts() {
        for (int v : new int[] {0, 1, 999999, 1000000}) {
            LeachRows x = new LeachRows(1);
            x.rain(0, 55);
            DUE.yes("rain(0, " + v + ")", x.rain(0, v));
            x.run(1);
            DUE.same("out(0)", x.out(0), v);
        }
    }

    private static void refused(int next, int day, int v) {
        DUE.saysNo("at " + next + ": rain(" + day + ", " + v + ")", () -> Fill.busyAt(next), x -> x.rain(day, v));
    }

    private static void refusedOnes() {
        for (int day : new int[] {-1, -2, 400, 401, 405, Integer.MAX_VALUE, Integer.MIN_VALUE}) {
            refused(5, day, 1000);
        }
        for (int v : new int[] {-1, -1000000, 1000001, Integer.MAX_VALUE, Integer.MIN_VALUE}) {
            refused(5, 5, v);
            refused(5, 399, v);
        }
        refused(5, -1, -1);
        refused(5, 400, 1000001);
    }

    private static void daysThatRan() {
        for (int next : new int[] {5, 6, 100, 399, 400}) {
            for (int day : new int[] {0, 1, next - 2, next - 1}) {
                refused(next, day, 1000);
            }
            refused(next, 400, 1000);
        }
        for (int next : new int[] {5, 6, 100, 398, 399}) {
            LeachRows x = Fill.emptyAt(next);
            DUE.yes("at " + next + ": rain(" + next + ", 8)", x.rain(next, 8));
            DUE.yes("at " + next + ": rain(399, 8)", x.rain(399, 8));
            x.run(1);
            DUE.same("at " + next + ": out(0) a day later", x.out(0), 8);
        }
    }
}
