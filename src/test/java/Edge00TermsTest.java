import java.util.function.IntBinaryOperator;

/** The edges that the document's "Terms" name. */
public final class Edge00TermsTest {
    private static final Due DUE = new Due("Edges of the terms");

    /** Parts, an amount, and what these parts of it are. */
    private static final int[][] PARTS = {
        {0, 0, 0}, {0, 1, 0}, {0, 1000000, 0},
        {1, 999, 0}, {1, 1000, 1}, {1, 1001, 1}, {1, 1999, 1}, {1, 2000, 2}, {1, 1000000, 1000},
        {499, 2, 0}, {500, 1, 0}, {500, 2, 1}, {500, 3, 1}, {501, 2, 1}, {333, 3, 0}, {334, 3, 1},
        {999, 0, 0}, {999, 1, 0}, {999, 2, 1}, {999, 1000, 999}, {999, 1001, 999}, {999, 1002, 1000},
        {999, 999999, 998999}, {999, 1000000, 999000},
        {1000, 0, 0}, {1000, 1, 1}, {1000, 999, 999}, {1000, 999999, 999999}, {1000, 1000000, 1000000},
    };

    public static void main(String[] args) {
        DUE.sentence("x PARTS of n are n times x over 1000, down", Edge00TermsTest::partsOfEachKind);
        DUE.sentence("All amounts are whole units", Edge00TermsTest::partsOfMoreThanAnIntTakes);
        DUE.sentence("Rain of the day (0, when none is told)", Edge00TermsTest::daysWithoutRain);
        DUE.sentence("what is to go BACK (of the day before, 0 at first)", Edge00TermsTest::backOfTheDayBeforeAlone);
        DUE.sentence("when it has more water than it holds", Edge00TermsTest::eachLayerHoldsJustSoMuch);
        DUE.sentence("its passes' parts of what is above", Edge00TermsTest::partsOfWhatIsAboveAlone);
        DUE.sentence("When the tank has more than its ROOM, what is above OVERFLOWED", Edge00TermsTest::justItsRoom);
        DUE.sentence("Then STAGES", Edge00TermsTest::overflowComesBeforeStages);
        DUE.sentence("the first takes .. as much as its RATE, or what there is", Edge00TermsTest::rateOfTheFirst);
        DUE.sentence("each next one .. as much as its rate, or what there is", Edge00TermsTest::ratesOfNextOnes);
        DUE.sentence("stays in the tank (comes into it again)", Edge00TermsTest::staysInAFullTank);
        DUE.sentence("Without stages nothing is taken out of the tank", Edge00TermsTest::withoutStages);
        DUE.sentence("An object is used for at most 512 calls", Edge00TermsTest::theLastCallCounts);
        DUE.end();
    }

    private static void partsOfEachKind() {
        parts("the cover", (parts, n) -> {
            LeachRows x = new LeachRows(1);
            x.cover(parts);
            return ran(x, n, 1);
        });
        parts("a layer", (parts, n) -> {
            LeachRows x = new LeachRows(1);
            x.layer(0, 0, parts);
            return ran(x, n, 2);
        });
        parts("the drain", (parts, n) -> {
            LeachRows x = Fill.drained();
            x.drain(parts);
            return ran(x, n, 7);
        });
        parts("a stage", (parts, n) -> {
            LeachRows x = Fill.drained();
            x.stage(1000000, parts);
            return ran(x, n, 5);
        });
        parts("the return", (parts, n) -> {
            LeachRows x = Fill.flowing();
            x.back(parts);
            return ran(x, n, 8);
        });
    }

    private static int ran(LeachRows x, int rain, int what) {
        x.rain(0, rain);
        x.run(1);
        DUE.same("balance() of " + rain, x.balance(), 0);
        return (int) x.out(what);
    }

    private static void parts(String whose, IntBinaryOperator partsOf) {
        for (int[] row : PARTS) {
            DUE.same(whose + ": " + row[0] + " parts of " + row[1], partsOf.applyAsInt(row[0], row[1]), row[2]);
        }
    }

    /** A layer that passed nothing for so many days of 1000000, and passes all on the next day. */
    private static LeachRows pentUp(int days) {
        LeachRows x = new LeachRows(1);
        x.layer(0, 0, 0);
        for (int day = 0; day < days; day++) {
            x.rain(day, 1000000);
        }
        x.run(days);
        x.layer(0, 0, 1000);
        return x;
    }

    private static void partsOfMoreThanAnIntTakes() {
        // 2147484 times 1000 is the first product that an int does not hold
        for (int days : new int[] {2, 3, 5, 99}) {
            LeachRows x = pentUp(days);
            x.drain(999);
            x.tank(1000000000L);
            x.rain(days, 1);
            x.run(1);
            DUE.same(days + " days seeped", x.out(2), days * 1000000L + 1);
            DUE.same(days + " days drained", x.out(7), days * 999000L);
            DUE.same(days + " days leaked", x.out(3), days * 1000L + 1);
            LeachRows y = pentUp(days);
            y.layer(0, 0, 999);
            y.run(1);
            DUE.same(days + " days passed", y.out(2), days * 999000L);
            DUE.same(days + " days held", y.held(0), days * 1000L);
        }
    }

    private static void daysWithoutRain() {
        LeachRows x = Fill.drained(0, 7, 0, 5);
        long[] rained = {0, 7, 7, 12, 12};
        for (int day = 0; day < rained.length; day++) {
            x.run(1);
            DUE.same("out(0) behind day " + day, x.out(0), rained[day]);
            DUE.same("out(7) behind day " + day, x.out(7), rained[day]);
        }
    }

    private static void backOfTheDayBeforeAlone() {
        LeachRows x = Fill.flowing(100);
        x.back(1000);
        x.layer(0, 1000, 1000);
        x.run(1);
        DUE.same("day 0, nothing came back: held(0)", x.held(0), 100);
        x.layer(0, 0, 1000);
        x.run(1);
        DUE.outs("day 1, all is to go back", x, 100, 0, 100, 0, 0, 0, 0, 0, 100);
        x.layer(0, 1000, 1000);
        x.run(1);
        DUE.outs("day 2, nothing is to go back", x, 100, 0, 100, 0, 0, 0, 0, 0, 0);
        DUE.same("day 2: held(0)", x.held(0), 100);
        x.run(1);
        DUE.same("day 3, it came back once: held(0)", x.held(0), 100);
    }

    private static void eachLayerHoldsJustSoMuch() {
        for (int k = 0; k < 6; k++) {
            for (int water : new int[] {0, 1, 49, 50, 51, 52}) {
                LeachRows x = new LeachRows(6);
                x.layer(k, 50, 1000);
                x.rain(0, water);
                x.run(1);
                DUE.same("held(" + k + ") of " + water, x.held(k), Math.min(50, water));
                DUE.same("seeped of " + water, x.out(2), Math.max(0, water - 50));
                x.run(1);
                DUE.same("held(" + k + ") of " + water + " a day later", x.held(k), Math.min(50, water));
            }
        }
    }

    private static void partsOfWhatIsAboveAlone() {
        for (int[] waterAndPassed : new int[][] {{50, 0}, {51, 0}, {52, 1}, {53, 1}, {54, 2}, {150, 50}}) {
            LeachRows x = new LeachRows(2);
            x.layer(0, 50, 500);
            x.layer(1, 1000000, 0);
            x.rain(0, waterAndPassed[0]);
            x.run(1);
            DUE.same("of " + waterAndPassed[0] + " passed", x.held(1), waterAndPassed[1]);
            DUE.same("of " + waterAndPassed[0] + " stayed", x.held(0), waterAndPassed[0] - waterAndPassed[1]);
        }
    }

    private static void justItsRoom() {
        for (int room : new int[] {0, 1, 2, 999, 1000000}) {
            for (int water = Math.max(0, room - 1); water <= Math.min(1000000, room + 2); water++) {
                LeachRows x = Fill.drained(water, 0, 1);
                x.tank(room);
                x.run(1);
                DUE.same("room " + room + ", " + water + " came: out(7)", x.out(7), Math.min(room, water));
                DUE.same("room " + room + ", " + water + " came: out(4)", x.out(4), Math.max(0, water - room));
                x.run(1);
                DUE.same("room " + room + ", " + water + " came, nothing more: out(4)", x.out(4),
                    Math.max(0, water - room));
                x.run(1);
                DUE.same("room " + room + ", " + water + " and 1 came: out(4)", x.out(4),
                    Math.max(0, water + 1 - room));
            }
        }
    }

    private static void overflowComesBeforeStages() {
        LeachRows x = Fill.flowing(1000000, 0);
        x.tank(10);
        x.run(1);
        DUE.outs("a stage takes no more than the room", x, 1000000, 0, 1000000, 0, 999990, 0, 10, 0, 0);
        LeachRows y = Fill.flowing(10);
        y.tank(0);
        y.run(1);
        DUE.outs("no room", y, 10, 0, 10, 0, 10, 0, 0, 0, 0);
    }

    private static void rateOfTheFirst() {
        for (int rate : new int[] {0, 1, 50, 999999, 1000000}) {
            for (int water = Math.max(0, rate - 1); water <= Math.min(1000000, rate + 1); water++) {
                LeachRows x = Fill.drained(water);
                x.stage(rate, 0);
                x.run(1);
                DUE.same("rate " + rate + " of " + water + ": out(6)", x.out(6), Math.min(rate, water));
                DUE.same("rate " + rate + " of " + water + ": out(7)", x.out(7), Math.max(0, water - rate));
            }
        }
        LeachRows x = Fill.drained(1000000, 1);
        x.run(1);
        x.stage(1000000, 0);
        x.run(1);
        DUE.same("rate 1000000 of 1000001: out(6)", x.out(6), 1000000);
        DUE.same("rate 1000000 of 1000001: out(7)", x.out(7), 1);
    }

    private static void ratesOfNextOnes() {
        for (int next = 1; next < 4; next++) {
            for (int rate : new int[] {0, 1, 49, 50, 51, 1000000}) {
                LeachRows x = Fill.drained(70);
                x.stage(50, 0);
                for (int between = 1; between < next; between++) {
                    x.stage(1000000, 0);
                }
                x.stage(rate, 0);
                x.run(1);
                DUE.same("stage " + next + ", rate " + rate + " of 50: out(6)", x.out(6), Math.min(rate, 50));
                DUE.same("stage " + next + ", rate " + rate + " of 50: out(7)", x.out(7), 20 + Math.max(0, 50 - rate));
            }
        }
    }

    private static void staysInAFullTank() {
        LeachRows x = Fill.drained(100, 0, 1);
        x.tank(100);
        x.stage(60, 0);
        x.stage(0, 0);
        x.run(1);
        DUE.outs("all came in again", x, 100, 0, 100, 0, 0, 0, 0, 100, 0);
        x.run(1);
        DUE.outs("it is just full", x, 100, 0, 100, 0, 0, 0, 0, 100, 0);
        x.run(1);
        DUE.outs("one more", x, 101, 0, 101, 0, 1, 0, 0, 100, 0);
    }

    private static void withoutStages() {
        LeachRows x = Fill.drained(100, 50, 0, 25);
        x.back(1000);
        x.limit(0, 0);
        x.run(4);
        DUE.outs("four days", x, 175, 0, 175, 0, 0, 0, 0, 175, 0);
        DUE.same("passed(0, 0)", x.passed(0, 0), LeachRows.NONE);
        DUE.same("passed(1, 0)", x.passed(1, 0), LeachRows.NONE);
        x.back(0);
        x.stage(1000000, 0);
        DUE.same("a stage takes nothing before a day runs: out(7)", x.out(7), 175);
        x.run(1);
        DUE.outs("with a stage", x, 175, 0, 175, 0, 0, 0, 175, 0, 0);
        LeachRows y = Fill.drained(100);
        DUE.same("a refused stage is none", y.stage(1000001, 0), LeachRows.NONE);
        y.run(1);
        DUE.outs("no stage yet", y, 100, 0, 100, 0, 0, 0, 0, 100, 0);
    }

    private static void theLastCallCounts() {
        LeachRows x = Fill.flowing();
        int calls = 3;
        for (int day = 0; day < 400; day++) {
            DUE.yes("rain(" + day + ", " + (day + 1) + ")", x.rain(day, day + 1));
            calls++;
        }
        for (int hundred = 1; hundred <= 4; hundred++) {
            DUE.same("run(100)", x.run(100), 100 * hundred);
            calls++;
        }
        DUE.yes("limit(398, 200)", x.limit(398, 200));
        calls++;
        for (; calls < 511; calls++) {
            DUE.same("out(6) as call " + calls, x.out(6), 80200);
        }
        DUE.same("passed(0, 1) as call 512", x.passed(0, 1), 399);
    }
}
