/** The edges that promise 1 names. */
public final class Edge01NewObjectTest {
    private static final Due DUE = new Due("Edges of promise 1: a new object");

    public static void main(String[] args) {
        DUE.sentence("layers of 1 .. 6", Edge01NewObjectTest::oneToSix);
        DUE.sentence("(of another number 1)", Edge01NewObjectTest::anotherNumber);
        DUE.sentence("WATER (0 at first)", Edge01NewObjectTest::noWater);
        DUE.sentence("HOLDS (0 at first) .. PASSES (1000 at first)", Edge01NewObjectTest::layersAtFirst);
        DUE.sentence("no rain", Edge01NewObjectTest::noRainOnAnyDay);
        DUE.sentence("cover, drain, return 0; room of the tank 0", Edge01NewObjectTest::zeroes);
        DUE.sentence("no stages", Edge01NewObjectTest::noStages);
        DUE.sentence("no limits", Edge01NewObjectTest::noLimits);
        DUE.sentence("no samples", Edge01NewObjectTest::noSamples);
        DUE.sentence("day 0 is the next one", Edge01NewObjectTest::dayZero);
        DUE.end();
    }

    /** So many layers, each holding 10, and 1000 of rain: what seeped tells how many there are. */
    private static void hasLayers(int told, int layers) {
        LeachRows x = new LeachRows(told);
        for (int k = 0; k < 8; k++) {
            DUE.same("of " + told + ": layer(" + k + ", 10, 1000)", x.layer(k, 10, 1000), k < layers);
        }
        x.rain(0, 1000);
        x.run(1);
        for (int k = 0; k < 8; k++) {
            DUE.same("of " + told + ": held(" + k + ")", x.held(k), k < layers ? 10 : LeachRows.NONE);
        }
        DUE.same("of " + told + ": seeped", x.out(2), 1000 - 10L * layers);
    }

    private static void oneToSix() {
        for (int layers = 1; layers <= 6; layers++) {
            hasLayers(layers, layers);
        }
    }

    private static void anotherNumber() {
        int[] others = {0, -1, -6, 7, 8, 1000, 65537, Integer.MAX_VALUE, Integer.MIN_VALUE, Integer.MIN_VALUE + 1};
        for (int other : others) {
            hasLayers(other, 1);
        }
    }

    private static void noWater() {
        for (int layers = 1; layers <= 6; layers++) {
            LeachRows x = new LeachRows(layers);
            for (int k = 0; k < layers; k++) {
                DUE.same("held(" + k + ") of " + layers, x.held(k), 0);
            }
            DUE.outs("new", x, 0, 0, 0, 0, 0, 0, 0, 0, 0);
        }
    }

    private static void layersAtFirst() {
        for (int k = 0; k < 6; k++) {
            LeachRows x = new LeachRows(6);
            x.rain(0, 1);
            x.run(1);
            DUE.same("held(" + k + ") of 1 that rained", x.held(k), 0);
            DUE.same("1 seeped", x.out(2), 1);
            told(k, 0, 999, 1000, 1);
            told(k, 1, 1000, 1000, 1);
            told(k, 0, 1000, 1000, 0);
        }
    }

    private static void told(int k, int holds, int passes, int rain, int stays) {
        LeachRows x = new LeachRows(6);
        x.layer(k, holds, passes);
        x.rain(0, rain);
        x.run(1);
        DUE.same("layer(" + k + ", " + holds + ", " + passes + "): stays", x.held(k), stays);
    }

    private static void noRainOnAnyDay() {
        LeachRows x = new LeachRows(6);
        for (int day = 1; day <= 4; day++) {
            x.run(100);
            DUE.outs("up to day " + 100 * day, x, 0, 0, 0, 0, 0, 0, 0, 0, 0);
        }
    }

    private static void zeroes() {
        LeachRows cover = new LeachRows(1);
        cover.rain(0, 1000000);
        cover.run(1);
        DUE.outs("no cover, no drain", cover, 1000000, 0, 1000000, 1000000, 0, 0, 0, 0, 0);
        LeachRows room = new LeachRows(1);
        room.drain(1000);
        room.rain(0, 1000000);
        room.run(1);
        DUE.outs("no room", room, 1000000, 0, 1000000, 0, 1000000, 0, 0, 0, 0);
        LeachRows back = Fill.flowing(1000000);
        back.run(1);
        DUE.outs("no return", back, 1000000, 0, 1000000, 0, 0, 0, 1000000, 0, 0);
    }

    private static void noStages() {
        LeachRows x = Fill.drained(1000);
        x.run(1);
        DUE.same("out(7)", x.out(7), 1000);
        for (int s = 0; s < 4; s++) {
            DUE.same("stage " + s, x.stage(0, 0), s);
        }
    }

    private static void noLimits() {
        LeachRows x = Fill.flowing(1000000, 1000000);
        DUE.same("passed(0, 0) before", x.passed(0, 0), LeachRows.NONE);
        DUE.same("passed(1, 0) before", x.passed(1, 0), LeachRows.NONE);
        x.run(2);
        DUE.same("passed(0, 0)", x.passed(0, 0), LeachRows.NONE);
        DUE.same("passed(1, 0)", x.passed(1, 0), LeachRows.NONE);
    }

    private static void noSamples() {
        LeachRows x = new LeachRows(1);
        for (int well = 0; well < 4; well++) {
            DUE.same("trend(" + well + ")", x.trend(well), 0);
            DUE.same("odds(" + well + ", 0)", x.odds(well, 0), 1);
            DUE.same("odds(" + well + ", 1)", x.odds(well, 1), 1);
            DUE.same("sample(" + well + ", 0, 0)", x.sample(well, 0, 0), 1);
        }
    }

    private static void dayZero() {
        LeachRows x = new LeachRows(1);
        DUE.yes("rain(0, 5)", x.rain(0, 5));
        DUE.same("run(1)", x.run(1), 1);
        DUE.same("out(0)", x.out(0), 5);
        LeachRows y = new LeachRows(1);
        DUE.same("run(100)", y.run(100), 100);
        LeachRows z = Fill.flowing(5);
        z.limit(4, 4);
        z.run(1);
        DUE.same("passed(0, 0)", z.passed(0, 0), 0);
        DUE.same("passed(1, 0)", z.passed(1, 0), 0);
    }
}
