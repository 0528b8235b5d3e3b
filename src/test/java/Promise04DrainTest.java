public final class Promise04DrainTest {
    private static final Due DUE = new Due("Promise 4: drain");

    public static void main(String[] args) {
        LeachRows x = new LeachRows(1);
        x.tank(1000000);
        DUE.yes("drain(1000)", x.drain(1000));
        x.rain(0, 77);
        x.run(1);
        DUE.outs("drain 1000", x, 77, 0, 77, 0, 0, 0, 0, 77, 0);
        DUE.no("drain(1001)", x.drain(1001));
        DUE.no("drain(-1)", x.drain(-1));
        DUE.no("drain(MAX)", x.drain(Integer.MAX_VALUE));
        DUE.no("drain(MIN)", x.drain(Integer.MIN_VALUE));
        x.rain(1, 3);
        x.run(1);
        DUE.outs("still 1000", x, 80, 0, 80, 0, 0, 0, 0, 80, 0);
        DUE.yes("drain(667)", x.drain(667));
        x.rain(2, 10);
        x.run(1);
        DUE.outs("667 parts of 10 are 6", x, 90, 0, 90, 4, 0, 0, 0, 86, 0);
        DUE.yes("drain(0)", x.drain(0));
        x.rain(3, 10);
        x.run(1);
        DUE.outs("drain 0", x, 100, 0, 100, 14, 0, 0, 0, 86, 0);
        DUE.end();
    }
}
