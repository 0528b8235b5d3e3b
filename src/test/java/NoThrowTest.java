import java.util.Random;

/** No call ever throws (LANGUAGE.md, rule 7), behind an object's 512th call either, where answers are free. */
public final class NoThrowTest {
    private static final Due DUE = new Due("Calls that do not throw");
    private static final int CALLS = 5000;

    public static void main(String[] args) {
        Random random = new Random(7);
        int[] layers = {Integer.MIN_VALUE, -1, 0, 1, 2, 3, 4, 5, 6, 7, Integer.MAX_VALUE};
        for (int count : layers) {
            DUE.same("new LeachRows(" + count + "): calls that ended", ended(new LeachRows(count), random), CALLS);
        }
        DUE.end();
    }

    private static int ended(LeachRows x, Random random) {
        for (int call = 0; call < CALLS; call++) {
            Call next = random.nextInt(3) == 0 ? Call.tame(random, call) : Call.wild(random);
            try {
                next.on(x);
            } catch (RuntimeException thrown) {
                System.out.println("call " + call + ": " + next + " threw " + thrown);
                return call;
            }
        }
        return CALLS;
    }
}
