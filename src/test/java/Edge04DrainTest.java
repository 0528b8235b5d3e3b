/** The edges that promise 4 names. */
public final class Edge04DrainTest {
    private static final Due DUE = new Due("Edges of promise 4: drain");

    public static void main(String[] args) {
        DUE.sentence("The drain, 0 .. 1000", Edge04DrainTest::thousandths);
        DUE.sentence("Answers true, or false", Edge04DrainTest::refusedOnes);
        DUE.end();
    }

    private static void thousandths() {
        for (int parts : new int[] {0, 1, 2, 500, 998, 999, 1000}) {
            LeachRows x = Fill.drained(1000);
            DUE.yes("drain(" + parts + ")", x.drain(parts));
            x.run(1);
            DUE.outs("drain " + parts, x, 1000, 0, 1000, 1000 - parts, 0, 0, 0, parts, 0);
        }
    }

    private static void refusedOnes() {
        for (int wrong : new int[] {-1, -2, -1000, 1001, 1002, 65536, Integer.MAX_VALUE, Integer.MIN_VALUE}) {
            DUE.saysNo("drain(" + wrong + ")", Fill::busy, x -> x.drain(wrong));
        }
    }
}
