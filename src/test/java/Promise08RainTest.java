public final class Promise08RainTest {
    private static final Due DUE = new Due("Promise 8: rain");

    public static void main(String[] args) {
        edges();
        wrongInputs();
        daysThatRan();
        laterWordCounts();
        DUE.end();
    }

    private static void edges() {
        LeachRows x = new LeachRows(1);
        DUE.yes("rain(0, 0)", x.rain(0, 0));
        DUE.yes("rain(0, 1000000)", x.rain(0, 1000000));
        DUE.yes("rain(399, 7)", x.rain(399, 7));
        x.run(1);
        DUE.same("out(0)", x.out(0), 1000000);
        x.run(99);
        x.run(100);
        x.run(100);
        x.run(99);
        DUE.same("out(0) before day 399", x.out(0), 1000000);
        DUE.same("run(1)", x.run(1), 400);
        DUE.same("out(0) after day 399", x.out(0), 1000007);
        DUE.no("rain(399, 1) when it ran", x.rain(399, 1));
        DUE.no("rain(400, 1) when 400 is the next", x.rain(400, 1));
    }

    private static void wrongInputs() {
        LeachRows x = new LeachRows(1);
        x.rain(0, 5);
        DUE.no("rain(-1, 1)", x.rain(-1, 1));
        DUE.no("rain(400, 1)", x.rain(400, 1));
        DUE.no("rain(MAX, 1)", x.rain(Integer.MAX_VALUE, 1));
        DUE.no("rain(MIN, 1)", x.rain(Integer.MIN_VALUE, 1));
        DUE.no("rain(0, -1)", x.rain(0, -1));
        DUE.no("rain(0, 1000001)", x.rain(0, 1000001));
        x.run(1);
        DUE.same("out(0)", x.out(0), 5);
    }

    private static void daysThatRan() {
        LeachRows x = new LeachRows(1);
        x.run(3);
        for (int day = 0; day < 3; day++) {
            DUE.no("rain(" + day + ", 1)", x.rain(day, 1));
        }
        DUE.yes("rain(3, 1)", x.rain(3, 1));
        x.run(1);
        DUE.same("out(0)", x.out(0), 1);
    }

    private static void laterWordCounts() {
        LeachRows x = new LeachRows(1);
        x.rain(1, 10);
        x.rain(1, 4);
        x.rain(3, 100);
        x.run(2);
        DUE.same("out(0): the later of two", x.out(0), 4);
        x.run(1);
        DUE.same("out(0): a day that none told of", x.out(0), 4);
        x.run(1);
        DUE.same("out(0): a day told of early", x.out(0), 104);
    }
}
