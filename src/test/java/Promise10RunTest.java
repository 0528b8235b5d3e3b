public final class Promise10RunTest {
    private static final Due DUE = new Due("Promise 10: run");

    public static void main(String[] args) {
        numberOfDays();
        notBeyondTheLastDay();
        aWholeDay();
        manyDaysAreAsOneByOne();
        DUE.end();
    }

    private static void numberOfDays() {
        LeachRows x = new LeachRows(1);
        x.rain(0, 9);
        for (int days : new int[] {0, -1, 101, 400, Integer.MAX_VALUE, Integer.MIN_VALUE}) {
            DUE.same("run(" + days + ")", x.run(days), LeachRows.NONE);
        }
        DUE.same("out(0)", x.out(0), 0);
        DUE.same("run(1)", x.run(1), 1);
        DUE.same("run(100)", x.run(100), 101);
        DUE.same("run(7)", x.run(7), 108);
    }

    private static void notBeyondTheLastDay() {
        LeachRows x = new LeachRows(1);
        x.rain(399, 13);
        DUE.same("run(100) at 0", x.run(100), 100);
        DUE.same("run(100) at 100", x.run(100), 200);
        DUE.same("run(100) at 200", x.run(100), 300);
        DUE.same("run(1) at 300", x.run(1), 301);
        DUE.same("run(100) at 301", x.run(100), LeachRows.NONE);
        DUE.same("out(0): nothing ran", x.out(0), 0);
        DUE.same("run(99) at 301", x.run(99), 400);
        DUE.same("out(0)", x.out(0), 13);
        DUE.same("run(1) at 400", x.run(1), LeachRows.NONE);
    }

    private static void aWholeDay() {
        LeachRows x = new LeachRows(2);
        x.cover(100);
        x.layer(0, 50, 800);
        x.layer(1, 20, 900);
        x.drain(750);
        x.tank(400);
        x.stage(300, 100);
        x.stage(250, 40);
        x.back(125);
        x.rain(0, 1000);
        x.rain(1, 10);
        DUE.same("run(1)", x.run(1), 1);
        DUE.same("held(0)", x.held(0), 220);
        DUE.same("held(1)", x.held(1), 86);
        // 594 seeped, 445 drained, 300 taken, 30 kept, 250 of 270 taken, 10 kept, 30 of 240 back
        DUE.outs("day 0", x, 1000, 100, 594, 149, 45, 40, 210, 120, 30);
        DUE.same("run(1)", x.run(1), 2);
        // 9 rained in, 30 came back: 259, 167 pass; 233 of 253 above, 209 seeped, 156 drained
        DUE.same("held(0)", x.held(0), 92);
        DUE.same("held(1)", x.held(1), 44);
        // 276 in the tank, all taken, 27 kept, 249 taken, 9 kept, 30 of 240 back
        DUE.outs("day 1", x, 1010, 101, 803, 202, 45, 76, 420, 0, 30);
    }

    private static void manyDaysAreAsOneByOne() {
        LeachRows one = stormy();
        LeachRows many = stormy();
        for (int day = 0; day < 100; day++) {
            one.run(1);
        }
        DUE.same("run(100)", many.run(100), 100);
        for (int what = 0; what < 9; what++) {
            DUE.same("out(" + what + ")", many.out(what), one.out(what));
        }
        for (int k = 0; k < 4; k++) {
            DUE.same("held(" + k + ")", many.held(k), one.held(k));
        }
        DUE.same("balance()", many.balance(), 0);
    }

    private static LeachRows stormy() {
        LeachRows x = new LeachRows(4);
        for (int k = 0; k < 4; k++) {
            x.layer(k, 100 * k, 900 - 150 * k);
        }
        x.cover(123);
        x.drain(877);
        x.tank(5000);
        x.stage(300, 21);
        x.stage(260, 45);
        x.back(310);
        x.storm(2026, 100);
        return x;
    }
}
