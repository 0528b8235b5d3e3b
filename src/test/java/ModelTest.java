import java.util.Random;

/** Whole runs of 512 calls, ordinary ones, such at the edges and wild ones, against the model. */
public final class ModelTest {
    private static final Due DUE = new Due("Runs against the model");
    private static final int CALLS = 512;

    public static void main(String[] args) {
        Random random = new Random(20261115);
        for (int run = 0; run < 600; run++) {
            sameAnswers(random, run);
        }
        DUE.end();
    }

    private static void sameAnswers(Random random, int run) {
        int layers = random.nextInt(10) - 1;
        int there = layers >= 1 && layers <= 6 ? layers : 1;
        LeachRows x = new LeachRows(layers);
        Model model = new Model(layers);
        // so that each kind of call makes up a whole run now and then
        int tame = random.nextInt(10);
        for (int call = 0; call < CALLS; call++) {
            Call next = random.nextInt(10) < tame ? Call.tame(random, call)
                : random.nextInt(4) == 0 ? Call.wild(random) : Call.edgy(random, there);
            DUE.same("run " + run + ", call " + call + ": " + next, next.on(x), next.on(model));
        }
    }
}
