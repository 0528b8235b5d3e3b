public final class Promise14LimitTest {
    private static final Due DUE = new Due("Promise 14: limit");

    public static void main(String[] args) {
        edges();
        refusedOnesChangeNothing();
        DUE.end();
    }

    /** A day with an outflow of 10. */
    private static LeachRows tenFlowedOut() {
        LeachRows x = new LeachRows(1);
        x.drain(1000);
        x.tank(100);
        x.stage(100, 0);
        x.rain(0, 10);
        x.run(1);
        return x;
    }

    private static void edges() {
        LeachRows x = tenFlowedOut();
        DUE.yes("limit(0, 0)", x.limit(0, 0));
        DUE.same("day above 0", x.passed(0, 0), 0);
        DUE.same("mean above 0", x.passed(1, 0), 0);
        DUE.yes("limit(1000000000, 1000000000)", x.limit(1000000000L, 1000000000L));
        DUE.same("day", x.passed(0, 0), LeachRows.NONE);
        DUE.same("mean", x.passed(1, 0), LeachRows.NONE);
        DUE.yes("limit(-1, 0)", x.limit(-1, 0));
        DUE.same("no limit of a day", x.passed(0, 0), LeachRows.NONE);
        DUE.same("a limit of the mean", x.passed(1, 0), 0);
        DUE.yes("limit(0, -1)", x.limit(0, -1));
        DUE.same("a limit of a day", x.passed(0, 0), 0);
        DUE.same("no limit of the mean", x.passed(1, 0), LeachRows.NONE);
        DUE.yes("limit(-1, -1)", x.limit(-1, -1));
        DUE.same("neither", x.passed(0, 0), LeachRows.NONE);
        DUE.same("neither", x.passed(1, 0), LeachRows.NONE);
    }

    private static void refusedOnesChangeNothing() {
        LeachRows x = tenFlowedOut();
        x.limit(9, 9);
        for (long wrong : new long[] {-2, 1000000001L, Long.MIN_VALUE, Long.MAX_VALUE, 4294967296L + 20}) {
            DUE.no("limit(" + wrong + ", 50)", x.limit(wrong, 50));
            DUE.no("limit(50, " + wrong + ")", x.limit(50, wrong));
            DUE.same("the day's limit is 9 still", x.passed(0, 0), 0);
            DUE.same("the mean's limit is 9 still", x.passed(1, 0), 0);
        }
    }
}
