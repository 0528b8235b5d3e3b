public final class Promise03CoverTest {
    private static final Due DUE = new Due("Promise 3: cover");

    public static void main(String[] args) {
        LeachRows x = new LeachRows(1);
        DUE.yes("cover(1000)", x.cover(1000));
        x.rain(0, 999);
        x.run(1);
        DUE.outs("cover 1000", x, 999, 999, 0, 0, 0, 0, 0, 0, 0);
        DUE.no("cover(1001)", x.cover(1001));
        DUE.no("cover(-1)", x.cover(-1));
        DUE.no("cover(MAX)", x.cover(Integer.MAX_VALUE));
        DUE.no("cover(MIN)", x.cover(Integer.MIN_VALUE));
        x.rain(1, 1);
        x.run(1);
        DUE.outs("still 1000", x, 1000, 1000, 0, 0, 0, 0, 0, 0, 0);
        DUE.yes("cover(333)", x.cover(333));
        x.rain(2, 100);
        x.run(1);
        DUE.outs("333 parts of 100 are 33", x, 1100, 1033, 67, 67, 0, 0, 0, 0, 0);
        DUE.yes("cover(0)", x.cover(0));
        x.rain(3, 10);
        x.run(1);
        DUE.outs("cover 0", x, 1110, 1033, 77, 77, 0, 0, 0, 0, 0);
        keepsOffNothingThatGoesBack();
        largestRain();
        DUE.end();
    }

    private static void keepsOffNothingThatGoesBack() {
        LeachRows x = new LeachRows(1);
        x.drain(1000);
        x.tank(100);
        x.stage(100, 0);
        x.back(1000);
        x.rain(0, 100);
        x.run(1);
        x.cover(1000);
        x.run(1);
        DUE.outs("back under the cover", x, 100, 0, 200, 0, 0, 0, 0, 0, 100);
    }

    private static void largestRain() {
        LeachRows x = new LeachRows(1);
        x.cover(999);
        x.rain(0, 1000000);
        x.run(1);
        DUE.same("999 parts of a million", x.out(1), 999000);
    }
}
