public final class Promise15PassedTest {
    private static final Due DUE = new Due("Promise 15: passed");
    private static final int[] FLOWS = {5, 10, 0, 11, 4, 30, 0, 0, 10, 100};

    public static void main(String[] args) {
        byDay();
        byMean();
        wrongInputs();
        limitsAsTheyAre();
        withoutOutflow();
        whatGoesBackIsNoOutflow();
        DUE.end();
    }

    /** A fill whose outflows are those above, day by day. */
    private static LeachRows flows() {
        LeachRows x = new LeachRows(1);
        x.drain(1000);
        x.tank(1000);
        x.stage(1000, 0);
        for (int day = 0; day < FLOWS.length; day++) {
            x.rain(day, FLOWS[day]);
        }
        return x;
    }

    private static void days(String what, LeachRows x, int which, int... days) {
        for (int k = 0; k < days.length; k++) {
            DUE.same(what + ": passed(" + which + ", " + k + ")", x.passed(which, k), days[k]);
        }
        DUE.same(what + ": no further", x.passed(which, days.length), LeachRows.NONE);
    }

    private static void byDay() {
        LeachRows x = flows();
        x.limit(10, -1);
        days("before", x, 0);
        x.run(4);
        days("four days", x, 0, 3);
        x.run(6);
        days("more than 10", x, 0, 3, 5, 9);
        x.limit(9, -1);
        days("more than 9", x, 0, 1, 3, 5, 8, 9);
        x.limit(0, -1);
        days("more than 0", x, 0, 0, 1, 3, 4, 5, 8, 9);
        x.limit(100, -1);
        days("more than 100", x, 0);
    }

    private static void byMean() {
        LeachRows x = flows();
        x.limit(-1, 6);
        days("before", x, 1);
        x.run(10);
        // together 5, 15, 15, 26, 30, 60, 60, 60, 70, 170 against 6, 12, 18, 24, 30, 36, 42, 48, 54, 60
        days("mean above 6", x, 1, 1, 3, 5, 6, 7, 8, 9);
        x.limit(-1, 5);
        // against 5, 10, 15, 20, 25, 30, 35, 40, 45, 50
        days("mean above 5", x, 1, 1, 3, 4, 5, 6, 7, 8, 9);
        x.limit(-1, 16);
        days("mean above 16", x, 1, 9);
        x.limit(-1, 17);
        days("mean just 17", x, 1);
    }

    private static void wrongInputs() {
        LeachRows x = flows();
        x.limit(0, 0);
        x.run(10);
        for (int which : new int[] {-1, 2, Integer.MAX_VALUE, Integer.MIN_VALUE}) {
            DUE.same("passed(" + which + ", 0)", x.passed(which, 0), LeachRows.NONE);
        }
        for (int k : new int[] {-1, 10, Integer.MAX_VALUE, Integer.MIN_VALUE}) {
            DUE.same("passed(0, " + k + ")", x.passed(0, k), LeachRows.NONE);
            DUE.same("passed(1, " + k + ")", x.passed(1, k), LeachRows.NONE);
        }
        DUE.same("passed(1, 9)", x.passed(1, 9), 9);
    }

    private static void limitsAsTheyAre() {
        LeachRows x = flows();
        x.run(10);
        days("none", x, 0);
        days("none", x, 1);
        x.limit(29, 16);
        days("day above 29", x, 0, 5, 9);
        days("mean above 16", x, 1, 9);
    }

    private static void withoutOutflow() {
        LeachRows x = new LeachRows(1);
        x.run(3);
        x.limit(0, 0);
        days("nothing is not more than 0", x, 0);
        days("nothing is not more than 0", x, 1);
    }

    private static void whatGoesBackIsNoOutflow() {
        LeachRows x = flows();
        x.back(400);
        x.run(1);
        x.back(1000);
        x.run(1);
        x.limit(2, 2);
        days("3 of 5 flowed out", x, 0, 0);
        days("3 of 5, then nothing", x, 1, 0);
        x.limit(3, 3);
        days("no more than 3 flowed out", x, 0);
        days("no more than 3 flowed out", x, 1);
    }
}
