public final class Promise17TrendTest {
    private static final Due DUE = new Due("Promise 17: trend");

    public static void main(String[] args) {
        trendOf(0);
        trendOf(0, 5);
        trendOf(1, 5, 6);
        trendOf(-1, 6, 5);
        trendOf(-3, 3, 2, 1);
        trendOf(1, 2, 1, 3);
        trendOf(-1, 2, 3, 1);
        trendOf(-2, -1, 5, 0, -7);
        trendOf(0, 2, 4, 1, 3);
        trendOf(28, -8, -7, -6, -5, 5, 6, 7, 8);
        trendOf(-28, 1000000, 900, 8, 1, 0, -1, -2, -1000000);
        trendOf(15, 2, 1, 4, 3, 6, 5, 7);
        wrongWells();
        DUE.end();
    }

    private static void trendOf(int want, int... values) {
        LeachRows x = new LeachRows(1);
        for (int well = 0; well < 4; well++) {
            for (int i = 0; i < values.length; i++) {
                x.sample(well, 10 * i, values[i]);
            }
            DUE.same(values.length + " samples: trend(" + well + ")", x.trend(well), want);
            DUE.same("no samples: trend(" + (well + 1) + ")", x.trend(well + 1), 0);
        }
    }

    private static void wrongWells() {
        LeachRows x = new LeachRows(1);
        for (int well : new int[] {-1, 4, Integer.MAX_VALUE, Integer.MIN_VALUE}) {
            DUE.same("trend(" + well + ")", x.trend(well), 0);
        }
    }
}
