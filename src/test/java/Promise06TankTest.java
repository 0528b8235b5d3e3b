public final class Promise06TankTest {
    private static final Due DUE = new Due("Promise 6: tank");

    public static void main(String[] args) {
        edges();
        overflowsAboveItsRoomAlone();
        lessRoomOverflowsTheNextDay();
        overflowsBeforeStagesTake();
        DUE.end();
    }

    private static void edges() {
        LeachRows x = new LeachRows(1);
        x.drain(1000);
        DUE.yes("tank(0)", x.tank(0L));
        DUE.yes("tank(1000000000)", x.tank(1000000000L));
        DUE.no("tank(1000000001)", x.tank(1000000001L));
        DUE.no("tank(-1)", x.tank(-1L));
        DUE.no("tank(MAX)", x.tank(Long.MAX_VALUE));
        DUE.no("tank(MIN)", x.tank(Long.MIN_VALUE));
        DUE.no("tank(2^32 + 5)", x.tank(4294967301L));
        x.rain(0, 1000000);
        x.run(1);
        DUE.same("out(7), the room as it was", x.out(7), 1000000);
    }

    private static void overflowsAboveItsRoomAlone() {
        LeachRows x = new LeachRows(1);
        x.drain(1000);
        x.tank(100);
        x.rain(0, 99);
        x.rain(1, 1);
        x.rain(2, 1);
        x.run(1);
        DUE.outs("below", x, 99, 0, 99, 0, 0, 0, 0, 99, 0);
        x.run(1);
        DUE.outs("full", x, 100, 0, 100, 0, 0, 0, 0, 100, 0);
        x.run(1);
        DUE.outs("above", x, 101, 0, 101, 0, 1, 0, 0, 100, 0);
    }

    private static void lessRoomOverflowsTheNextDay() {
        LeachRows x = new LeachRows(1);
        x.drain(1000);
        x.tank(100);
        x.rain(0, 100);
        x.run(1);
        x.tank(30);
        DUE.outs("at once", x, 100, 0, 100, 0, 0, 0, 0, 100, 0);
        x.run(1);
        DUE.outs("a day later", x, 100, 0, 100, 0, 70, 0, 0, 30, 0);
    }

    private static void overflowsBeforeStagesTake() {
        LeachRows x = new LeachRows(1);
        x.drain(1000);
        x.tank(100);
        x.stage(60, 0);
        x.rain(0, 150);
        x.run(1);
        DUE.outs("the same day", x, 150, 0, 150, 0, 50, 0, 60, 40, 0);
    }
}
