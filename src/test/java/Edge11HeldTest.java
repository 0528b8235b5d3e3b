/** The edges that promise 11 names. */
public final class Edge11HeldTest {
    private static final Due DUE = new Due("Edges of promise 11: held");

    public static void main(String[] args) {
        DUE.sentence("A layer's water", Edge11HeldTest::firstAndLast);
        DUE.sentence("NONE when there is none such", Edge11HeldTest::noneSuch);
        DUE.sentence("a question changes nothing", Edge11HeldTest::askedInVain);
        DUE.end();
    }

    /** Each layer has another amount of water than each other. */
    private static LeachRows wet(int layers) {
        LeachRows x = new LeachRows(layers);
        for (int k = 0; k < layers; k++) {
            x.layer(k, 100 + k, 1000);
        }
        x.rain(0, 10000);
        x.run(1);
        return x;
    }

    private static void firstAndLast() {
        for (int layers = 1; layers <= 6; layers++) {
            LeachRows x = wet(layers);
            for (int k = 0; k < layers; k++) {
                DUE.same("held(" + k + ") of " + layers, x.held(k), 100 + k);
            }
        }
        LeachRows most = new LeachRows(1);
        most.layer(0, 0, 0);
        for (int day = 0; day < 400; day++) {
            most.rain(day, 1000000);
        }
        for (int hundred = 1; hundred <= 4; hundred++) {
            most.run(100);
            DUE.same("the most water that can be: held(0)", most.held(0), hundred * 100000000L);
        }
    }

    private static void noneSuch() {
        for (int layers = 1; layers <= 6; layers++) {
            LeachRows x = wet(layers);
            for (int k : new int[] {-1, -layers, layers, layers + 1, 6, Integer.MAX_VALUE, Integer.MIN_VALUE}) {
                DUE.same("held(" + k + ") of " + layers, x.held(k), LeachRows.NONE);
            }
        }
    }

    private static void askedInVain() {
        LeachRows x = Fill.busy();
        for (int k = -2; k < 8; k++) {
            x.held(k);
        }
        DUE.alike("behind held", x, Fill.busy());
    }
}
