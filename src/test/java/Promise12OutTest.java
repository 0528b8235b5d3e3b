public final class Promise12OutTest {
    private static final Due DUE = new Due("Promise 12: out");

    public static void main(String[] args) {
        LeachRows x = new LeachRows(1);
        for (int what : new int[] {-1, 9, 10, Integer.MAX_VALUE, Integer.MIN_VALUE}) {
            DUE.same("out(" + what + ")", x.out(what), LeachRows.NONE);
        }
        x.cover(100);
        x.drain(800);
        x.tank(500);
        x.stage(400, 250);
        x.back(100);
        x.rain(0, 1000);
        DUE.outs("before the day", x, 0, 0, 0, 0, 0, 0, 0, 0, 0);
        x.run(1);
        // 900 seeped, 720 drained, 220 over, 400 taken, 100 kept, 30 of 300 back
        DUE.outs("day 0", x, 1000, 100, 900, 180, 220, 100, 270, 100, 30);
        x.rain(1, 100);
        x.run(1);
        // 90 + 30 seeped, 96 drained, 196 taken, 49 kept, 14 of 147 back
        DUE.outs("day 1", x, 1100, 110, 1020, 204, 220, 149, 403, 0, 14);
        DUE.same("out(9)", x.out(9), LeachRows.NONE);
        DUE.end();
    }
}
