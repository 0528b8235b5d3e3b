/** The edges that promise 7 names. */
public final class Edge07StageTest {
    private static final Due DUE = new Due("Edges of promise 7: stage");
    private static final int[] WRONG_RATES = {-1, -1000000, 1000001, Integer.MAX_VALUE, Integer.MIN_VALUE};
    private static final int[] WRONG_KEEPS = {-1, -1000, 1001, Integer.MAX_VALUE, Integer.MIN_VALUE};

    public static void main(String[] args) {
        DUE.sentence("rate 0 .. 1000000", Edge07StageTest::rates);
        DUE.sentence("keeps 0 .. 1000", Edge07StageTest::keeps);
        DUE.sentence("Answers its number", Edge07StageTest::numbers);
        DUE.sentence("NONE when there are 4", Edge07StageTest::fourAtMost);
        DUE.sentence("or these are not such", Edge07StageTest::refusedOnes);
        DUE.end();
    }

    private static void rates() {
        for (int rate : new int[] {0, 1, 999999, 1000000}) {
            LeachRows x = Fill.drained(1000000, 1000000);
            x.run(1);
            DUE.same("stage(" + rate + ", 0)", x.stage(rate, 0), 0);
            x.run(1);
            DUE.outs("rate " + rate, x, 2000000, 0, 2000000, 0, 0, 0, rate, 2000000 - rate, 0);
        }
    }

    private static void keeps() {
        for (int keeps : new int[] {0, 1, 2, 500, 999, 1000}) {
            LeachRows x = Fill.drained(1000);
            DUE.same("stage(1000, " + keeps + ")", x.stage(1000, keeps), 0);
            x.run(1);
            DUE.outs("keeps " + keeps, x, 1000, 0, 1000, 0, 0, keeps, 1000 - keeps, 0, 0);
        }
    }

    private static void numbers() {
        LeachRows x = Fill.drained();
        for (int number = 0; number < 4; number++) {
            for (int wrong : WRONG_RATES) {
                DUE.same("stage(" + wrong + ", 0)", x.stage(wrong, 0), LeachRows.NONE);
            }
            for (int wrong : WRONG_KEEPS) {
                DUE.same("stage(0, " + wrong + ")", x.stage(0, wrong), LeachRows.NONE);
            }
            DUE.same("a refused one has no number: stage(9, 9)", x.stage(9, 9), number);
        }
    }

    /** Four stages, of which the last one's rate is the least. */
    private static LeachRows withFour() {
        LeachRows x = Fill.drained(1000, 400, 30);
        for (int s = 0; s < 4; s++) {
            x.stage(100 - s, 50);
        }
        return x;
    }

    private static void fourAtMost() {
        LeachRows x = withFour();
        DUE.same("a fifth", x.stage(0, 0), LeachRows.NONE);
        DUE.same("a fifth, asked again", x.stage(0, 0), LeachRows.NONE);
        for (int[] fifth : new int[][] {{0, 0}, {0, 1000}, {1000000, 0}, {1000000, 1000}, {100, 50}}) {
            DUE.saysNone("a fifth, stage(" + fifth[0] + ", " + fifth[1] + ")", Edge07StageTest::withFour,
                y -> y.stage(fifth[0], fifth[1]));
        }
    }

    private static void refusedOnes() {
        for (int wrong : WRONG_RATES) {
            DUE.saysNone("stage(" + wrong + ", 500)", Fill::busy, x -> x.stage(wrong, 500));
        }
        for (int wrong : WRONG_KEEPS) {
            DUE.saysNone("stage(100, " + wrong + ")", Fill::busy, x -> x.stage(100, wrong));
        }
        DUE.saysNone("stage(-1, 1001)", Fill::busy, x -> x.stage(-1, 1001));
    }
}
