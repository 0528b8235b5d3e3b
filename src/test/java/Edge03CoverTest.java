/** The edges that promise 3 names. */
public final class Edge03CoverTest {
    private static final Due DUE = new Due("Edges of promise 3: cover");

    public static void main(String[] args) {
        DUE.sentence("The cover, 0 .. 1000 thousandths", Edge03CoverTest::thousandths);
        DUE.sentence("Rain of the day .. less the COVER's parts of it", Edge03CoverTest::ofRainAlone);
        DUE.sentence("Answers true, or false", Edge03CoverTest::refusedOnes);
        DUE.end();
    }

    private static void thousandths() {
        for (int parts : new int[] {0, 1, 2, 500, 998, 999, 1000}) {
            LeachRows x = new LeachRows(1);
            x.cover(77);
            DUE.yes("cover(" + parts + ")", x.cover(parts));
            x.rain(0, 1000);
            x.run(1);
            DUE.outs("cover " + parts, x, 1000, parts, 1000 - parts, 1000 - parts, 0, 0, 0, 0, 0);
        }
    }

    private static void ofRainAlone() {
        LeachRows x = Fill.flowing(1000, 100);
        x.back(1000);
        x.run(1);
        x.cover(1000);
        x.run(1);
        DUE.outs("all rain kept off, all that goes back comes in", x, 1100, 100, 2000, 0, 0, 0, 0, 0, 1000);
    }

    private static void refusedOnes() {
        for (int wrong : new int[] {-1, -2, -1000, 1001, 1002, 65536, Integer.MAX_VALUE, Integer.MIN_VALUE}) {
            DUE.saysNo("cover(" + wrong + ")", Fill::busy, x -> x.cover(wrong));
        }
    }
}
