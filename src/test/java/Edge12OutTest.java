/** The edges that promise 12 names. */
public final class Edge12OutTest {
    private static final Due DUE = new Due("Edges of promise 12: out");

    public static void main(String[] args) {
        DUE.sentence("0 what rained .. 8 what is to go back", Edge12OutTest::firstAndLast);
        DUE.sentence("NONE for another what", Edge12OutTest::anotherWhat);
        DUE.sentence("In all days", Edge12OutTest::allDays);
        DUE.sentence("7 what is in the tank, 8 what is to go back", Edge12OutTest::asTheyAreNow);
        DUE.sentence("a question changes nothing", Edge12OutTest::askedInVain);
        DUE.end();
    }

    private static void firstAndLast() {
        LeachRows x = new LeachRows(1);
        x.cover(100);
        x.drain(500);
        x.tank(300);
        x.stage(200, 100);
        x.back(250);
        x.rain(0, 1000);
        x.run(1);
        // 100 kept off; 900 seeped, 450 leaked, 150 over; 200 taken, 20 kept; 45 of 180 back
        DUE.outs("nine of different amounts", x, 1000, 100, 900, 450, 150, 20, 135, 100, 45);
    }

    private static void anotherWhat() {
        LeachRows x = Fill.busy();
        for (int what : new int[] {-1, -2, -9, 9, 10, 18, Integer.MAX_VALUE, Integer.MIN_VALUE}) {
            DUE.same("out(" + what + ")", x.out(what), LeachRows.NONE);
        }
        LeachRows y = new LeachRows(1);
        DUE.same("new: out(-1)", y.out(-1), LeachRows.NONE);
        DUE.same("new: out(9)", y.out(9), LeachRows.NONE);
    }

    private static void allDays() {
        LeachRows x = new LeachRows(1);
        x.cover(500);
        for (int day = 0; day < 400; day++) {
            x.rain(day, 1000000);
        }
        for (int hundred = 1; hundred <= 4; hundred++) {
            x.run(100);
            DUE.outs("the most rain up to day " + 100 * hundred, x, 100000000L * hundred, 50000000L * hundred,
                50000000L * hundred, 50000000L * hundred, 0, 0, 0, 0, 0);
        }
    }

    private static void asTheyAreNow() {
        LeachRows x = Fill.flowing(100, 0, 0);
        x.back(500);
        x.run(1);
        DUE.outs("day 0", x, 100, 0, 100, 0, 0, 0, 50, 0, 50);
        x.run(1);
        DUE.outs("day 1", x, 100, 0, 150, 0, 0, 0, 75, 0, 25);
        x.back(0);
        DUE.same("the return told anew, before a day runs: out(8)", x.out(8), 25);
        x.run(1);
        DUE.outs("day 2", x, 100, 0, 175, 0, 0, 0, 100, 0, 0);
    }

    private static void askedInVain() {
        LeachRows x = Fill.busy();
        for (int what = -2; what < 12; what++) {
            x.out(what);
        }
        DUE.alike("behind out", x, Fill.busy());
    }
}
