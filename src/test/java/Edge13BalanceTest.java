/** The edges of promise 13: nothing yet, and many days. */
public final class Edge13BalanceTest {
    private static final Due DUE = new Due("Edges of promise 13: balance");

    public static void main(String[] args) {
        DUE.sentence("What rained less .., on a new object", Edge13BalanceTest::onANewObject);
        DUE.sentence("What rained less .., behind many days", Edge13BalanceTest::behindManyDays);
        DUE.sentence("What rained less .., of the most that can rain", Edge13BalanceTest::ofTheMost);
        DUE.sentence("less all that was kept off, .. and is to go back", Edge13BalanceTest::eachPlace);
        DUE.sentence("A call that is refused changes nothing", Edge13BalanceTest::behindRefusedCalls);
        DUE.end();
    }

    private static void onANewObject() {
        for (int layers = -1; layers <= 7; layers++) {
            DUE.same("of " + layers + ": balance()", new LeachRows(layers).balance(), 0);
        }
        LeachRows x = Fill.drained(1000000);
        DUE.same("rain that is told but has not run: balance()", x.balance(), 0);
    }

    private static void behindManyDays() {
        for (int layers = 1; layers <= 6; layers++) {
            LeachRows x = Fill.busy(layers);
            for (int turn = 0; turn < 79; turn++) {
                x.storm(turn, 5);
                x.run(5);
                DUE.same("of " + layers + ", turn " + turn + ": balance()", x.balance(), 0);
            }
            DUE.same("day 399 ran", x.run(1), LeachRows.NONE);
            DUE.same("of " + layers + ": balance() by hand", byHand(x, layers), 0);
        }
    }

    private static long byHand(LeachRows x, int layers) {
        long rest = x.out(0);
        for (int what : new int[] {1, 3, 4, 5, 6, 7, 8}) {
            rest -= x.out(what);
        }
        for (int k = 0; k < layers; k++) {
            rest -= x.held(k);
        }
        return rest;
    }

    private static void ofTheMost() {
        LeachRows x = Fill.flowing();
        x.back(999);
        for (int day = 0; day < 400; day++) {
            x.rain(day, 1000000);
        }
        for (int hundred = 1; hundred <= 4; hundred++) {
            x.run(100);
            DUE.same("rained", x.out(0), hundred * 100000000L);
            DUE.same("balance()", x.balance(), 0);
            DUE.same("balance() by hand", byHand(x, 1), 0);
        }
    }

    /** All water is in one place alone. */
    private static void eachPlace() {
        LeachRows keptOff = Fill.drained(1000);
        keptOff.cover(1000);
        inPlace(keptOff, 1, 1000);
        LeachRows leaked = Fill.drained(1000);
        leaked.drain(0);
        inPlace(leaked, 3, 1000);
        LeachRows overflowed = Fill.drained(1000);
        overflowed.tank(0);
        inPlace(overflowed, 4, 1000);
        LeachRows kept = Fill.drained(1000);
        kept.stage(1000, 1000);
        inPlace(kept, 5, 1000);
        inPlace(Fill.flowing(1000), 6, 1000);
        inPlace(Fill.drained(1000), 7, 1000);
        LeachRows back = Fill.flowing(1000);
        back.back(1000);
        inPlace(back, 8, 1000);
        for (int k = 0; k < 6; k++) {
            LeachRows layer = new LeachRows(6);
            layer.layer(k, 1000, 1000);
            layer.rain(0, 1000);
            inPlace(layer, 6, 0);
            DUE.same("held(" + k + ")", layer.held(k), 1000);
        }
    }

    private static void inPlace(LeachRows x, int what, int amount) {
        x.run(1);
        DUE.same("out(0)", x.out(0), 1000);
        DUE.same("out(" + what + ")", x.out(what), amount);
        DUE.same("balance()", x.balance(), 0);
    }

    private static void behindRefusedCalls() {
        LeachRows x = Fill.busyAt(400);
        x.run(1);
        x.rain(399, 1000);
        x.storm(1, 1);
        x.layer(0, -1, 0);
        x.stage(-1, 0);
        DUE.same("balance()", x.balance(), 0);
        DUE.alike("behind balance", x, Fill.busyAt(400));
    }
}
