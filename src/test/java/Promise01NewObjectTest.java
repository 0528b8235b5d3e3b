public final class Promise01NewObjectTest {
    private static final Due DUE = new Due("Promise 1: A new object");

    public static void main(String[] args) {
        layersOfEachNumber();
        otherNumbersGiveOneLayer();
        everythingIsEmpty();
        layersHoldNothingAndPassAll();
        coverDrainReturnAndRoomAreZero();
        objectsAreApart();
        DUE.same("NONE", LeachRows.NONE, -1);
        DUE.end();
    }

    private static void layersOfEachNumber() {
        for (int layers = 1; layers <= 6; layers++) {
            LeachRows x = new LeachRows(layers);
            for (int k = 0; k < layers; k++) {
                DUE.same(layers + " layers: held(" + k + ")", x.held(k), 0);
            }
            DUE.same(layers + " layers: held(" + layers + ")", x.held(layers), LeachRows.NONE);
        }
    }

    private static void otherNumbersGiveOneLayer() {
        for (int layers : new int[] {0, -1, 7, 100, Integer.MAX_VALUE, Integer.MIN_VALUE}) {
            LeachRows x = new LeachRows(layers);
            DUE.same(layers + " layers: held(0)", x.held(0), 0);
            DUE.same(layers + " layers: held(1)", x.held(1), LeachRows.NONE);
        }
    }

    private static void everythingIsEmpty() {
        LeachRows x = new LeachRows(3);
        DUE.outs("new", x, 0, 0, 0, 0, 0, 0, 0, 0, 0);
        DUE.same("run(1): day 0 was the next one", x.run(1), 1);
        DUE.outs("no rain", x, 0, 0, 0, 0, 0, 0, 0, 0, 0);
        DUE.same("no limit of a day", x.passed(0, 0), LeachRows.NONE);
        DUE.same("no limit of the mean", x.passed(1, 0), LeachRows.NONE);
        DUE.same("the first stage", x.stage(1, 1), 0);
        for (int well = 0; well < 4; well++) {
            DUE.same("the first sample of " + well, x.sample(well, 0, 0), 1);
        }
    }

    private static void layersHoldNothingAndPassAll() {
        LeachRows x = new LeachRows(6);
        x.rain(0, 12345);
        x.run(1);
        for (int k = 0; k < 6; k++) {
            DUE.same("held(" + k + ") of layers as new", x.held(k), 0);
        }
        DUE.same("all seeped", x.out(2), 12345);
    }

    private static void coverDrainReturnAndRoomAreZero() {
        LeachRows x = new LeachRows(1);
        x.rain(0, 1000);
        x.run(1);
        DUE.outs("cover 0, drain 0", x, 1000, 0, 1000, 1000, 0, 0, 0, 0, 0);
        x.drain(1000);
        x.rain(1, 500);
        x.run(1);
        DUE.outs("room 0", x, 1500, 0, 1500, 1000, 500, 0, 0, 0, 0);
        x.tank(100);
        x.stage(1000, 0);
        x.rain(2, 70);
        x.run(1);
        DUE.outs("return 0", x, 1570, 0, 1570, 1000, 500, 0, 70, 0, 0);
    }

    private static void objectsAreApart() {
        LeachRows x = new LeachRows(1);
        LeachRows y = new LeachRows(1);
        x.layer(0, 50, 0);
        x.rain(0, 80);
        x.run(1);
        x.sample(0, 1, 1);
        DUE.same("x.held(0)", x.held(0), 80);
        DUE.same("y.held(0)", y.held(0), 0);
        DUE.same("y.run(1)", y.run(1), 1);
        DUE.same("y.out(0)", y.out(0), 0);
        DUE.same("y.sample(0, 0, 1)", y.sample(0, 0, 1), 1);
    }
}
