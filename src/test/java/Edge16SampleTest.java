/** The edges that promise 16 and the wells of "Terms" name. */
public final class Edge16SampleTest {
    private static final Due DUE = new Due("Edges of promise 16: sample");
    private static final int LAST = Fill.LAST_SAMPLE;

    public static void main(String[] args) {
        DUE.sentence("a well 0 .. 3", Edge16SampleTest::wells);
        DUE.sentence("a day 0 .. 100000", Edge16SampleTest::days);
        DUE.sentence("behind its last one's", Edge16SampleTest::behindTheLast);
        DUE.sentence("a value -1000000 .. 1000000", Edge16SampleTest::values);
        DUE.sentence("that it has not", Edge16SampleTest::valuesThatItHas);
        DUE.sentence("Answers how many it has", Edge16SampleTest::howMany);
        DUE.sentence("or it has 8", Edge16SampleTest::eightAtMost);
        DUE.end();
    }

    private static void refused(int well, int day, int v) {
        DUE.saysNone("sample(" + well + ", " + day + ", " + v + ")", Fill::busy, x -> x.sample(well, day, v));
    }

    private static void wells() {
        LeachRows x = new LeachRows(1);
        for (int well = 0; well < 4; well++) {
            DUE.same("sample(" + well + ", 5, 5)", x.sample(well, 5, 5), 1);
        }
        for (int well : new int[] {-1, -2, 4, 5, 8, Integer.MAX_VALUE, Integer.MIN_VALUE}) {
            refused(well, 90, 90);
        }
    }

    private static void days() {
        for (int day : new int[] {0, 1, 399, 400, 99999, 100000}) {
            LeachRows x = new LeachRows(1);
            DUE.same("sample(0, " + day + ", 1)", x.sample(0, day, 1), 1);
        }
        for (int day : new int[] {-1, -2, 100001, 100002, Integer.MAX_VALUE, Integer.MIN_VALUE}) {
            refused(0, day, 90);
            refused(1, day, 90);
        }
    }

    private static void behindTheLast() {
        for (int day : new int[] {0, 1, LAST - 10, LAST - 1, LAST}) {
            refused(0, day, 90);
            refused(3, day, 90);
        }
        LeachRows x = Fill.busy();
        DUE.same("a day behind the last one's", x.sample(0, LAST + 1, 90), 4);
        DUE.same("the same day again", x.sample(0, LAST + 1, 91), LeachRows.NONE);
        DUE.same("another well's days are its own", x.sample(1, 0, 90), 1);
        LeachRows y = new LeachRows(1);
        DUE.same("day 0", y.sample(2, 0, 1), 1);
        DUE.same("day 0 again", y.sample(2, 0, 2), LeachRows.NONE);
        DUE.same("day 1", y.sample(2, 1, 2), 2);
        DUE.same("day 99999", y.sample(2, 99999, 3), 3);
        DUE.same("day 100000", y.sample(2, 100000, 4), 4);
        DUE.same("day 100000 again", y.sample(2, 100000, 5), LeachRows.NONE);
        DUE.same("day 100001", y.sample(2, 100001, 5), LeachRows.NONE);
    }

    private static void values() {
        LeachRows x = new LeachRows(1);
        int[] taken = {-1000000, 1000000, -999999, 999999, 0, -1, 1};
        for (int i = 0; i < taken.length; i++) {
            DUE.same("sample(0, " + i + ", " + taken[i] + ")", x.sample(0, i, taken[i]), i + 1);
        }
        for (int v : new int[] {-1000001, -1000002, 1000001, 1000002, Integer.MAX_VALUE, Integer.MIN_VALUE}) {
            refused(0, 90, v);
            refused(1, 90, v);
        }
    }

    private static void valuesThatItHas() {
        for (int v : new int[] {5, 9, 7}) {
            refused(0, 90, v);
        }
        for (int v : new int[] {-4, -9, -12}) {
            refused(3, 90, v);
        }
        LeachRows x = Fill.busy();
        DUE.same("a value that another well has", x.sample(0, 90, -9), 4);
        DUE.same("it has it now", x.sample(0, 91, -9), LeachRows.NONE);
        LeachRows zero = new LeachRows(1);
        DUE.same("0 is no value of an empty well", zero.sample(0, 1, 0), 1);
        DUE.same("0 again", zero.sample(0, 2, 0), LeachRows.NONE);
        LeachRows refusedOne = new LeachRows(1);
        refusedOne.sample(0, 5, 1);
        DUE.same("a day too early", refusedOne.sample(0, 5, 2), LeachRows.NONE);
        DUE.same("its value was not taken", refusedOne.sample(0, 6, 2), 2);
        DUE.same("a value that it has", refusedOne.sample(0, 50, 2), LeachRows.NONE);
        DUE.same("its day was not taken", refusedOne.sample(0, 7, 3), 3);
    }

    private static void howMany() {
        LeachRows x = new LeachRows(1);
        for (int i = 0; i < 8; i++) {
            for (int well = 0; well < 4; well++) {
                DUE.same("sample(" + well + "), refused", x.sample(well, -1, i), LeachRows.NONE);
                DUE.same("sample(" + well + ")", x.sample(well, i, i), i + 1);
            }
        }
    }

    /** Well 2 has 8 samples, well 1 has 7. */
    private static LeachRows full() {
        LeachRows x = Fill.busy();
        for (int i = 0; i < 8; i++) {
            x.sample(2, i, 10 * i);
        }
        for (int i = 0; i < 7; i++) {
            x.sample(1, i, 10 * i);
        }
        return x;
    }

    private static void eightAtMost() {
        LeachRows x = full();
        DUE.same("an eighth", x.sample(1, 7, 70), 8);
        DUE.same("a ninth", x.sample(1, 8, 80), LeachRows.NONE);
        DUE.same("a ninth again", x.sample(1, 9, 90), LeachRows.NONE);
        DUE.same("trend(1)", x.trend(1), 28);
        for (int[] ninth : new int[][] {{8, 80}, {100000, -1000000}, {8, 0}, {7, 80}, {0, 5}}) {
            DUE.saysNone("a ninth, sample(2, " + ninth[0] + ", " + ninth[1] + ")", Edge16SampleTest::full,
                y -> y.sample(2, ninth[0], ninth[1]));
        }
    }
}
