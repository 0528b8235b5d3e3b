import java.util.Random;

public final class Promise13BalanceTest {
    private static final Due DUE = new Due("Promise 13: balance");

    public static void main(String[] args) {
        Random random = new Random(13);
        for (int run = 0; run < 200; run++) {
            anyFillIsEven(random, run);
        }
        DUE.end();
    }

    private static void anyFillIsEven(Random random, int run) {
        int layers = 1 + random.nextInt(6);
        LeachRows x = new LeachRows(layers);
        DUE.same("a new one", x.balance(), 0);
        for (int turn = 0; turn < 20; turn++) {
            x.layer(random.nextInt(layers), random.nextInt(2000), random.nextInt(1001));
            x.cover(random.nextInt(1001));
            x.drain(random.nextInt(1001));
            x.back(random.nextInt(1001));
            x.tank(random.nextInt(5000));
            if (random.nextInt(4) == 0) {
                x.stage(random.nextInt(2000), random.nextInt(1001));
            }
            x.storm(random.nextLong(), 1 + random.nextInt(20));
            x.run(1 + random.nextInt(20));
            DUE.same("run " + run + ", turn " + turn, x.balance(), 0);
            DUE.same("run " + run + ", turn " + turn + ", by hand", byHand(x, layers), 0);
        }
    }

    private static long byHand(LeachRows x, int layers) {
        long rest = x.out(0);
        for (int what : new int[] {1, 3, 4, 5, 6, 7, 8}) {
            rest -= x.out(what);
        }
        for (int k = 0; k < layers; k++) {
            rest -= x.held(k);
        }
        return rest;
    }
}
