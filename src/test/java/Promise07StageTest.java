public final class Promise07StageTest {
    private static final Due DUE = new Due("Promise 7: stage");

    public static void main(String[] args) {
        numbersAndEdges();
        wrongInputs();
        takesItsRateOrWhatThereIs();
        whatANextOneDoesNotTakeComesIntoTheTankAgain();
        fourInTheirOrder();
        DUE.end();
    }

    private static LeachRows withWater(int amount) {
        LeachRows x = new LeachRows(1);
        x.drain(1000);
        x.tank(1000000000L);
        x.rain(0, amount);
        return x;
    }

    private static void numbersAndEdges() {
        LeachRows x = new LeachRows(1);
        DUE.same("stage(0, 0)", x.stage(0, 0), 0);
        DUE.same("stage(1000000, 1000)", x.stage(1000000, 1000), 1);
        DUE.same("stage(0, 1000)", x.stage(0, 1000), 2);
        DUE.same("stage(1000000, 0)", x.stage(1000000, 0), 3);
        DUE.same("a fifth", x.stage(1, 1), LeachRows.NONE);
        DUE.same("a fifth again", x.stage(1, 1), LeachRows.NONE);
    }

    private static void wrongInputs() {
        LeachRows x = withWater(100);
        DUE.same("stage(1000001, 0)", x.stage(1000001, 0), LeachRows.NONE);
        DUE.same("stage(-1, 0)", x.stage(-1, 0), LeachRows.NONE);
        DUE.same("stage(0, 1001)", x.stage(0, 1001), LeachRows.NONE);
        DUE.same("stage(0, -1)", x.stage(0, -1), LeachRows.NONE);
        DUE.same("stage(MIN, MAX)", x.stage(Integer.MIN_VALUE, Integer.MAX_VALUE), LeachRows.NONE);
        x.run(1);
        DUE.outs("no stages yet", x, 100, 0, 100, 0, 0, 0, 0, 100, 0);
        DUE.same("the first", x.stage(100, 0), 0);
    }

    private static void takesItsRateOrWhatThereIs() {
        LeachRows x = withWater(100);
        x.stage(70, 333);
        x.run(1);
        DUE.outs("its rate; 333 parts of 70 are 23", x, 100, 0, 100, 0, 0, 23, 47, 30, 0);
        x.run(1);
        DUE.outs("what there is; 333 parts of 30 are 9", x, 100, 0, 100, 0, 0, 32, 68, 0, 0);
        x.run(1);
        DUE.outs("nothing", x, 100, 0, 100, 0, 0, 32, 68, 0, 0);
    }

    private static void whatANextOneDoesNotTakeComesIntoTheTankAgain() {
        LeachRows x = withWater(1000);
        x.stage(100, 200);
        x.stage(50, 100);
        x.run(1);
        DUE.outs("80 came, 50 were taken", x, 1000, 0, 1000, 0, 0, 25, 45, 930, 0);
        x.stage(0, 0);
        x.run(1);
        DUE.outs("a third takes nothing", x, 1000, 0, 1000, 0, 0, 50, 45, 905, 0);
    }

    private static void fourInTheirOrder() {
        LeachRows x = withWater(1000);
        x.stage(500, 100);
        x.stage(400, 200);
        x.stage(300, 300);
        x.stage(200, 1000);
        x.run(1);
        DUE.outs("four", x, 1000, 0, 1000, 0, 0, 50 + 80 + 90 + 200, 0, 500 + 50 + 20 + 10, 0);
    }
}
