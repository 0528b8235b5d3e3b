/** The edges that promise 15 and the limits of "Terms" name. */
public final class Edge15PassedTest {
    private static final Due DUE = new Due("Edges of promise 15: passed");

    public static void main(String[] args) {
        DUE.sentence("passes the day's limit when it is more than that", Edge15PassedTest::moreThanTheDaysLimit);
        DUE.sentence("more than it times how many they are", Edge15PassedTest::moreThanTheMeansLimit);
        DUE.sentence("THE MEAN of the days from day 0 to one with it", Edge15PassedTest::fromDayZero);
        DUE.sentence("The k-th day", Edge15PassedTest::firstAndLast);
        DUE.sentence("that ran", Edge15PassedTest::daysThatRan);
        DUE.sentence("(which = 0) .. (1)", Edge15PassedTest::anotherWhich);
        DUE.sentence("by limits as they are", Edge15PassedTest::limitsAsTheyAre);
        DUE.sentence("the rest is OUTFLOW", Edge15PassedTest::withoutWhatGoesBack);
        DUE.sentence("NONE when there is none such", Edge15PassedTest::noneSuch);
        DUE.sentence("up to day 399", Edge15PassedTest::lastDay);
        DUE.sentence("a question changes nothing", Edge15PassedTest::askedInVain);
        DUE.end();
    }

    private static LeachRows ran(int... flows) {
        LeachRows x = Fill.flowing(flows);
        x.run(flows.length);
        return x;
    }

    /** These days pass, and no other. */
    private static void days(String what, LeachRows x, int which, int... days) {
        for (int k = 0; k < days.length; k++) {
            DUE.same(what + ": passed(" + which + ", " + k + ")", x.passed(which, k), days[k]);
        }
        DUE.same(what + ": passed(" + which + ", " + days.length + ")", x.passed(which, days.length), LeachRows.NONE);
    }

    private static void moreThanTheDaysLimit() {
        LeachRows x = ran(0, 1, 2, 999999, 1000000);
        int[][] limitAndFirst = {{0, 1}, {1, 2}, {2, 3}, {3, 3}, {999998, 3}, {999999, 4}, {1000000, LeachRows.NONE}};
        for (int[] row : limitAndFirst) {
            x.limit(row[0], -1);
            DUE.same("limit " + row[0] + ": passed(0, 0)", x.passed(0, 0), row[1]);
        }
    }

    private static void moreThanTheMeansLimit() {
        LeachRows just = ran(10, 10, 10);
        just.limit(-1, 10);
        days("just the limit", just, 1);
        LeachRows more = ran(10, 10, 11);
        more.limit(-1, 10);
        days("31 of 3 days are more than 30", more, 1, 2);
        more.limit(-1, 11);
        days("31 of 3 days are not more than 33", more, 1);
        LeachRows one = ran(0, 0, 1);
        one.limit(-1, 0);
        days("1 of 3 days is more than 0", one, 1, 2);
        LeachRows nothing = ran(0, 0, 0);
        nothing.limit(0, 0);
        days("0 is not more than 0", nothing, 1);
        days("0 is not more than 0", nothing, 0);
    }

    private static void fromDayZero() {
        LeachRows early = ran(30, 0, 0, 0);
        early.limit(-1, 10);
        days("30, 15, just 10, 7", early, 1, 0, 1);
        LeachRows late = ran(0, 0, 0, 41);
        late.limit(-1, 10);
        days("0, 0, 0, 10 and more", late, 1, 3);
        LeachRows again = ran(11, 0, 20, 0, 0);
        again.limit(-1, 10);
        days("11, 5, 10 and more, 7, 6", again, 1, 0, 2);
    }

    private static void firstAndLast() {
        LeachRows x = ran(5, 0, 5, 0, 5);
        x.limit(4, 1);
        days("days 0, 2, 4", x, 0, 0, 2, 4);
        days("5 of 1, 5 of 2, 10 of 3, 10 of 4, 15 of 5", x, 1, 0, 1, 2, 3, 4);
        for (int k : new int[] {-1, -2, 5, 6, 400, Integer.MAX_VALUE, Integer.MIN_VALUE}) {
            DUE.same("passed(0, " + k + ")", x.passed(0, k), LeachRows.NONE);
            DUE.same("passed(1, " + k + ")", x.passed(1, k), LeachRows.NONE);
        }
    }

    private static void daysThatRan() {
        LeachRows x = Fill.flowing(5, 5, 5);
        x.limit(0, 0);
        days("none ran", x, 0);
        days("none ran", x, 1);
        x.run(1);
        days("one ran", x, 0, 0);
        days("one ran", x, 1, 0);
        x.run(2);
        days("three ran", x, 0, 0, 1, 2);
        days("three ran", x, 1, 0, 1, 2);
    }

    private static void anotherWhich() {
        LeachRows x = ran(5, 5);
        x.limit(0, 0);
        for (int which : new int[] {-1, -2, 2, 3, Integer.MAX_VALUE, Integer.MIN_VALUE}) {
            DUE.same("passed(" + which + ", 0)", x.passed(which, 0), LeachRows.NONE);
        }
        DUE.same("passed(0, 1)", x.passed(0, 1), 1);
        DUE.same("passed(1, 1)", x.passed(1, 1), 1);
    }

    private static void limitsAsTheyAre() {
        LeachRows x = Fill.flowing(5, 9, 7);
        x.limit(4, 4);
        x.run(3);
        days("above 4", x, 0, 0, 1, 2);
        days("mean above 4", x, 1, 0, 1, 2);
        x.limit(7, 6);
        days("above 7, by the limit told behind the days", x, 0, 1);
        days("mean above 6", x, 1, 1, 2);
        x.limit(-1, -1);
        days("no limit", x, 0);
        days("no limit", x, 1);
        x.limit(8, 5);
        days("above 8, a limit again", x, 0, 1);
        days("mean above 5", x, 1, 1, 2);
        DUE.no("limit(-2, 0)", x.limit(-2, 0));
        DUE.no("limit(0, 1000000001)", x.limit(0, 1000000001L));
        days("above 8, the other was refused", x, 0, 1);
        days("mean above 5, the other was refused", x, 1, 1, 2);
        LeachRows lower = Fill.flowing(5, 9, 7);
        lower.limit(1000, 1000);
        lower.run(3);
        days("above 1000", lower, 0);
        days("mean above 1000", lower, 1);
        lower.limit(6, 5);
        days("above 6, told lower behind the days", lower, 0, 1, 2);
        days("mean above 5, told lower behind the days", lower, 1, 1, 2);
    }

    private static void withoutWhatGoesBack() {
        LeachRows x = Fill.flowing(10);
        x.back(100);
        x.layer(0, 0, 1000);
        x.run(1);
        x.limit(9, 9);
        days("9 of 10 flowed out", x, 0);
        days("9 of 10 flowed out", x, 1);
        x.limit(8, 8);
        days("9 are more than 8", x, 0, 0);
        days("9 are more than 8", x, 1, 0);
    }

    private static void noneSuch() {
        LeachRows x = ran(5, 9, 7);
        DUE.same("without limits: passed(0, 0)", x.passed(0, 0), LeachRows.NONE);
        DUE.same("without limits: passed(1, 0)", x.passed(1, 0), LeachRows.NONE);
        x.limit(9, 7);
        DUE.same("no day is above: passed(0, 0)", x.passed(0, 0), LeachRows.NONE);
        DUE.same("no mean is above: passed(1, 0)", x.passed(1, 0), LeachRows.NONE);
    }

    private static void lastDay() {
        LeachRows x = Fill.flowing();
        x.rain(399, 4001);
        for (int hundred = 0; hundred < 4; hundred++) {
            x.run(100);
        }
        x.limit(4000, 10);
        days("day 399 alone", x, 0, 399);
        days("4001 of 400 days are more than 4000", x, 1, 399);
        x.limit(4001, 11);
        days("no day", x, 0);
        days("4001 of 400 days are not more than 4400", x, 1);
        LeachRows y = Fill.flowing();
        for (int day = 0; day < 400; day++) {
            y.rain(day, 1);
        }
        for (int hundred = 0; hundred < 4; hundred++) {
            y.run(100);
        }
        y.limit(0, 0);
        for (int which = 0; which < 2; which++) {
            DUE.same("passed(" + which + ", 399)", y.passed(which, 399), 399);
            DUE.same("passed(" + which + ", 400)", y.passed(which, 400), LeachRows.NONE);
        }
    }

    private static void askedInVain() {
        LeachRows x = Fill.busy();
        for (int k = -1; k < 8; k++) {
            x.passed(0, k);
            x.passed(1, k);
            x.passed(2, k);
        }
        DUE.alike("behind passed", x, Fill.busy());
    }
}
