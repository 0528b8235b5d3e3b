public final class Promise05BackTest {
    private static final Due DUE = new Due("Promise 5: back");

    public static void main(String[] args) {
        edges();
        goesBackTheNextDay();
        takenOutOfTheTankAloneGoesBack();
        DUE.end();
    }

    private static void edges() {
        LeachRows x = new LeachRows(1);
        DUE.yes("back(0)", x.back(0));
        DUE.yes("back(1000)", x.back(1000));
        DUE.no("back(1001)", x.back(1001));
        DUE.no("back(-1)", x.back(-1));
        DUE.no("back(MAX)", x.back(Integer.MAX_VALUE));
        DUE.no("back(MIN)", x.back(Integer.MIN_VALUE));
        x.drain(1000);
        x.tank(10);
        x.stage(10, 0);
        x.rain(0, 9);
        x.run(1);
        DUE.outs("still 1000", x, 9, 0, 9, 0, 0, 0, 0, 0, 9);
    }

    private static void goesBackTheNextDay() {
        LeachRows x = new LeachRows(1);
        x.drain(1000);
        x.tank(1000);
        x.stage(1000, 0);
        x.back(333);
        x.rain(0, 100);
        x.run(1);
        DUE.outs("333 parts of 100", x, 100, 0, 100, 0, 0, 0, 67, 0, 33);
        DUE.same("held(0): not back yet", x.held(0), 0);
        x.layer(0, 1000, 1000);
        x.run(1);
        DUE.same("held(0): back", x.held(0), 33);
        DUE.outs("none is to go back now", x, 100, 0, 100, 0, 0, 0, 67, 0, 0);
        x.layer(0, 0, 1000);
        x.back(0);
        x.run(1);
        DUE.outs("back 0", x, 100, 0, 133, 0, 0, 0, 100, 0, 0);
    }

    private static void takenOutOfTheTankAloneGoesBack() {
        LeachRows x = new LeachRows(1);
        x.drain(1000);
        x.tank(1000);
        x.back(1000);
        x.rain(0, 100);
        x.run(1);
        DUE.outs("without stages", x, 100, 0, 100, 0, 0, 0, 0, 100, 0);
    }
}
