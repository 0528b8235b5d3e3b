public final class Promise16SampleTest {
    private static final Due DUE = new Due("Promise 16: sample");

    public static void main(String[] args) {
        eightAtMost();
        wells();
        days();
        values();
        refusedOnesChangeNothing();
        DUE.end();
    }

    private static void eightAtMost() {
        LeachRows x = new LeachRows(1);
        for (int i = 0; i < 8; i++) {
            DUE.same("sample " + i, x.sample(2, 3 * i, i), i + 1);
        }
        DUE.same("a ninth", x.sample(2, 100, 100), LeachRows.NONE);
        DUE.same("trend(2)", x.trend(2), 28);
    }

    private static void wells() {
        LeachRows x = new LeachRows(1);
        for (int well = 0; well < 4; well++) {
            DUE.same("sample(" + well + ", 5, 7)", x.sample(well, 5, 7), 1);
        }
        for (int well : new int[] {-1, 4, Integer.MAX_VALUE, Integer.MIN_VALUE}) {
            DUE.same("sample(" + well + ", 5, 7)", x.sample(well, 5, 7), LeachRows.NONE);
        }
    }

    private static void days() {
        LeachRows x = new LeachRows(1);
        DUE.same("day -1", x.sample(0, -1, 1), LeachRows.NONE);
        DUE.same("day MIN", x.sample(0, Integer.MIN_VALUE, 1), LeachRows.NONE);
        DUE.same("day 100001", x.sample(0, 100001, 1), LeachRows.NONE);
        DUE.same("day MAX", x.sample(0, Integer.MAX_VALUE, 1), LeachRows.NONE);
        DUE.same("day 0", x.sample(0, 0, 1), 1);
        DUE.same("day 0 again", x.sample(0, 0, 2), LeachRows.NONE);
        DUE.same("day 50", x.sample(0, 50, 2), 2);
        DUE.same("day 49", x.sample(0, 49, 3), LeachRows.NONE);
        DUE.same("day 51", x.sample(0, 51, 3), 3);
        DUE.same("day 100000", x.sample(0, 100000, 4), 4);
        DUE.same("day 100001 behind it", x.sample(0, 100001, 5), LeachRows.NONE);
        DUE.same("day 400 needs no run", x.sample(1, 400, 5), 1);
    }

    private static void values() {
        LeachRows x = new LeachRows(1);
        DUE.same("-1000000", x.sample(0, 1, -1000000), 1);
        DUE.same("1000000", x.sample(0, 2, 1000000), 2);
        DUE.same("0", x.sample(0, 3, 0), 3);
        DUE.same("1000001", x.sample(0, 4, 1000001), LeachRows.NONE);
        DUE.same("-1000001", x.sample(0, 4, -1000001), LeachRows.NONE);
        DUE.same("MAX", x.sample(0, 4, Integer.MAX_VALUE), LeachRows.NONE);
        DUE.same("MIN", x.sample(0, 4, Integer.MIN_VALUE), LeachRows.NONE);
        DUE.same("-1000000 again", x.sample(0, 4, -1000000), LeachRows.NONE);
        DUE.same("1000000 again", x.sample(0, 4, 1000000), LeachRows.NONE);
        DUE.same("0 again", x.sample(0, 4, 0), LeachRows.NONE);
        DUE.same("0 in another well", x.sample(1, 4, 0), 1);
    }

    private static void refusedOnesChangeNothing() {
        LeachRows x = new LeachRows(1);
        x.sample(0, 1, 5);
        x.sample(0, 90, 5);
        x.sample(0, 90, 2000000);
        DUE.same("day 2 is free still", x.sample(0, 2, 6), 2);
        x.sample(0, 1, 7);
        DUE.same("value 7 is free still", x.sample(0, 3, 7), 3);
        DUE.same("trend(0)", x.trend(0), 3);
    }
}
