import java.util.Arrays;

/** The edges that promise 14 names. */
public final class Edge14LimitTest {
    private static final Due DUE = new Due("Edges of promise 14: limit");
    private static final long MOST = 1000000000L;
    private static final long[] WRONG = {-2, -3, -MOST, MOST + 1, MOST + 2, Long.MAX_VALUE, Long.MIN_VALUE,
        1L << 32, (1L << 32) - 1, (1L << 32) + 94, -(1L << 32), (1L << 40) + 63};

    public static void main(String[] args) {
        DUE.sentence("of a day .. 0 .. 1000000000", Edge14LimitTest::limitsOfADay);
        DUE.sentence("and of the mean, 0 .. 1000000000", Edge14LimitTest::limitsOfTheMean);
        DUE.sentence("or -1 for none", Edge14LimitTest::none);
        DUE.sentence("Answers true, or false", Edge14LimitTest::refusedOnes);
        DUE.end();
    }

    /** Ten days, on each of which 1000000 flowed out. */
    private static LeachRows mostOutflow() {
        int[] rains = new int[10];
        Arrays.fill(rains, 1000000);
        LeachRows x = Fill.flowing(rains);
        x.run(10);
        return x;
    }

    private static void limitsOfADay() {
        for (long limit : new long[] {0, 1, 999999, 1000000, 1000001, MOST - 1, MOST}) {
            LeachRows x = mostOutflow();
            DUE.yes("limit(" + limit + ", -1)", x.limit(limit, -1));
            for (int k = 0; k < 10; k++) {
                DUE.same("limit " + limit + ": passed(0, " + k + ")", x.passed(0, k),
                    limit < 1000000 ? k : LeachRows.NONE);
            }
            DUE.same("no limit of the mean", x.passed(1, 0), LeachRows.NONE);
        }
    }

    private static void limitsOfTheMean() {
        for (long limit : new long[] {0, 1, 999999, 1000000, 1000001, MOST - 1, MOST}) {
            LeachRows x = mostOutflow();
            DUE.yes("limit(-1, " + limit + ")", x.limit(-1, limit));
            for (int k = 0; k < 10; k++) {
                DUE.same("limit " + limit + ": passed(1, " + k + ")", x.passed(1, k),
                    limit < 1000000 ? k : LeachRows.NONE);
            }
            DUE.same("no limit of a day", x.passed(0, 0), LeachRows.NONE);
        }
    }

    private static void none() {
        for (long[] limits : new long[][] {{-1, -1}, {0, -1}, {-1, 0}, {0, 0}}) {
            LeachRows x = mostOutflow();
            x.limit(5, 5);
            DUE.yes("limit(" + limits[0] + ", " + limits[1] + ")", x.limit(limits[0], limits[1]));
            DUE.same("passed(0, 0)", x.passed(0, 0), limits[0] < 0 ? LeachRows.NONE : 0);
            DUE.same("passed(1, 0)", x.passed(1, 0), limits[1] < 0 ? LeachRows.NONE : 0);
        }
    }

    private static void refusedOnes() {
        for (long wrong : WRONG) {
            DUE.saysNo("limit(" + wrong + ", 0)", Fill::busy, x -> x.limit(wrong, 0));
            DUE.saysNo("limit(0, " + wrong + ")", Fill::busy, x -> x.limit(0, wrong));
            DUE.saysNo("limit(" + wrong + ", -1)", Fill::busy, x -> x.limit(wrong, -1));
            DUE.saysNo("limit(-1, " + wrong + ")", Fill::busy, x -> x.limit(-1, wrong));
            DUE.saysNo("limit(" + wrong + ", " + wrong + ")", Fill::busy, x -> x.limit(wrong, wrong));
        }
        LeachRows x = mostOutflow();
        DUE.no("new: limit(-2, 0)", x.limit(-2, 0));
        DUE.no("new: limit(0, -2)", x.limit(0, -2));
        DUE.same("no limits yet: passed(0, 0)", x.passed(0, 0), LeachRows.NONE);
        DUE.same("no limits yet: passed(1, 0)", x.passed(1, 0), LeachRows.NONE);
    }
}
