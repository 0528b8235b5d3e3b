/** The edges that promise 5 names. */
public final class Edge05BackTest {
    private static final Due DUE = new Due("Edges of promise 5: back");

    public static void main(String[] args) {
        DUE.sentence("The return, 0 .. 1000", Edge05BackTest::thousandths);
        DUE.sentence("Answers true, or false", Edge05BackTest::refusedOnes);
        DUE.end();
    }

    private static void thousandths() {
        for (int parts : new int[] {0, 1, 2, 500, 998, 999, 1000}) {
            LeachRows x = Fill.flowing(1000);
            x.back(77);
            DUE.yes("back(" + parts + ")", x.back(parts));
            x.run(1);
            DUE.outs("back " + parts, x, 1000, 0, 1000, 0, 0, 0, 1000 - parts, 0, parts);
            x.layer(0, 1000, 1000);
            x.run(1);
            DUE.same("back " + parts + ", a day later: held(0)", x.held(0), parts);
        }
    }

    private static void refusedOnes() {
        for (int wrong : new int[] {-1, -2, -1000, 1001, 1002, 65536, Integer.MAX_VALUE, Integer.MIN_VALUE}) {
            DUE.saysNo("back(" + wrong + ")", Fill::busy, x -> x.back(wrong));
        }
    }
}
