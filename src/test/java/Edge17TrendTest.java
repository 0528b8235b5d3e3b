/** The edges that promise 17 and the trend of "Terms" name. */
public final class Edge17TrendTest {
    private static final Due DUE = new Due("Edges of promise 17: trend");

    public static void main(String[] args) {
        DUE.sentence("over all pairs of samples", Edge17TrendTest::mostAndLeast);
        DUE.sentence("1 when the later is more, -1 when less", Edge17TrendTest::byOneUnit);
        DUE.sentence("A well's trend, of a well without samples or with one", Edge17TrendTest::withoutPairs);
        DUE.sentence("0 when there is none such", Edge17TrendTest::noneSuch);
        DUE.sentence("A call that is refused changes nothing", Edge17TrendTest::behindRefusedSamples);
        DUE.sentence("a question changes nothing", Edge17TrendTest::askedInVain);
        DUE.end();
    }

    private static LeachRows with(int well, int... values) {
        LeachRows x = new LeachRows(1);
        for (int i = 0; i < values.length; i++) {
            x.sample(well, i, values[i]);
        }
        return x;
    }

    private static void mostAndLeast() {
        for (int well = 0; well < 4; well++) {
            LeachRows rises = new LeachRows(1);
            LeachRows falls = new LeachRows(1);
            for (int count = 1; count <= 8; count++) {
                rises.sample(well, count, count);
                falls.sample(well, count, -count);
                DUE.same(count + " that rise: trend(" + well + ")", rises.trend(well), count * (count - 1) / 2);
                DUE.same(count + " that fall: trend(" + well + ")", falls.trend(well), -count * (count - 1) / 2);
            }
        }
        DUE.same("the first is the most of all", with(0, 8, 1, 2, 3, 4, 5, 6, 7).trend(0), 14);
        DUE.same("the last is the least of all", with(0, 2, 3, 4, 5, 6, 7, 8, 1).trend(0), 14);
    }

    private static void byOneUnit() {
        DUE.same("one unit more", with(0, 999999, 1000000).trend(0), 1);
        DUE.same("one unit less", with(0, -999999, -1000000).trend(0), -1);
        DUE.same("from the least to the most", with(0, -1000000, 1000000).trend(0), 1);
        DUE.same("from the most to the least", with(0, 1000000, -1000000).trend(0), -1);
    }

    private static void withoutPairs() {
        for (int well = 0; well < 4; well++) {
            DUE.same("no samples: trend(" + well + ")", new LeachRows(1).trend(well), 0);
            DUE.same("one sample: trend(" + well + ")", with(well, 7).trend(well), 0);
        }
    }

    private static void noneSuch() {
        LeachRows x = new LeachRows(1);
        for (int well = 0; well < 4; well++) {
            for (int i = 0; i < 3; i++) {
                x.sample(well, i, i);
            }
            DUE.same("trend(" + well + ")", x.trend(well), 3);
        }
        for (int well : new int[] {-1, -4, 4, 5, 8, Integer.MAX_VALUE, Integer.MIN_VALUE}) {
            DUE.same("trend(" + well + ")", x.trend(well), 0);
        }
    }

    private static void behindRefusedSamples() {
        LeachRows x = with(0, 1, 2, 3);
        x.sample(0, 2, 9);
        x.sample(0, 9, 3);
        x.sample(0, 100001, 9);
        x.sample(0, 9, 1000001);
        x.sample(4, 9, 9);
        DUE.same("trend(0)", x.trend(0), 3);
        LeachRows full = with(0, 1, 2, 3, 4, 5, 6, 7, 8);
        full.sample(0, 9, 0);
        DUE.same("trend(0) of a full well", full.trend(0), 28);
    }

    private static void askedInVain() {
        LeachRows x = Fill.busy();
        for (int well = -1; well < 6; well++) {
            x.trend(well);
        }
        DUE.alike("behind trend", x, Fill.busy());
    }
}
