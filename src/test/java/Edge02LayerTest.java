/** The edges that promise 2 names. */
public final class Edge02LayerTest {
    private static final Due DUE = new Due("Edges of promise 2: layer");

    public static void main(String[] args) {
        DUE.sentence("LAYERS are 0 .. L - 1", Edge02LayerTest::layersThatThereAreNot);
        DUE.sentence("holds (0 .. 1000000)", Edge02LayerTest::holds);
        DUE.sentence("passes (0 .. 1000)", Edge02LayerTest::passes);
        DUE.end();
    }

    private static void refused(int layers, int k, int holds, int passes) {
        DUE.saysNo("of " + layers + ": layer(" + k + ", " + holds + ", " + passes + ")",
            () -> Fill.busy(layers), x -> x.layer(k, holds, passes));
    }

    private static void layersThatThereAreNot() {
        for (int layers = 1; layers <= 6; layers++) {
            LeachRows x = Fill.busy(layers);
            DUE.yes("the first of " + layers, x.layer(0, 5, 5));
            DUE.yes("the last of " + layers, x.layer(layers - 1, 5, 5));
            for (int k : new int[] {-1, -2, layers, layers + 1, Integer.MAX_VALUE, Integer.MIN_VALUE}) {
                refused(layers, k, 5, 5);
            }
        }
    }

    private static void holds() {
        for (int k = 0; k < 3; k++) {
            for (int wrong : new int[] {-1, -1000000, 1000001, Integer.MAX_VALUE, Integer.MIN_VALUE}) {
                refused(3, k, wrong, 500);
            }
            LeachRows none = new LeachRows(3);
            DUE.yes("layer(" + k + ", 0, 1000)", none.layer(k, 0, 1000));
            none.rain(0, 1);
            none.run(1);
            DUE.same("holds 0: held(" + k + ")", none.held(k), 0);
            LeachRows most = new LeachRows(3);
            DUE.yes("layer(" + k + ", 1000000, 1000)", most.layer(k, 1000000, 1000));
            most.rain(0, 1000000);
            most.rain(1, 1);
            most.run(1);
            DUE.same("holds 1000000, just so: held(" + k + ")", most.held(k), 1000000);
            DUE.same("holds 1000000, just so: out(2)", most.out(2), 0);
            most.run(1);
            DUE.same("holds 1000000, one more: held(" + k + ")", most.held(k), 1000000);
            DUE.same("holds 1000000, one more: out(2)", most.out(2), 1);
        }
    }

    private static void passes() {
        for (int k = 0; k < 3; k++) {
            for (int wrong : new int[] {-1, -1000, 1001, Integer.MAX_VALUE, Integer.MIN_VALUE}) {
                refused(3, k, 50, wrong);
            }
            passesOf(k, 0, 1000, 0);
            passesOf(k, 1, 999, 0);
            passesOf(k, 1, 1000, 1);
            passesOf(k, 999, 1000, 999);
            passesOf(k, 1000, 1000, 1000);
        }
    }

    private static void passesOf(int k, int passes, int rain, int passed) {
        LeachRows x = new LeachRows(3);
        DUE.yes("layer(" + k + ", 0, " + passes + ")", x.layer(k, 0, passes));
        x.rain(0, rain);
        x.run(1);
        DUE.same(passes + " parts of " + rain + " stay: held(" + k + ")", x.held(k), rain - passed);
        DUE.same(passes + " parts of " + rain + ": out(2)", x.out(2), passed);
    }
}
