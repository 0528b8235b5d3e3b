import java.math.BigInteger;

public final class Promise09StormTest {
    private static final Due DUE = new Due("Promise 9: storm");
    private static final BigInteger WRAP = BigInteger.ONE.shiftLeft(64);
    private static final BigInteger TIMES = new BigInteger("6364136223846793005");
    private static final BigInteger PLUS = new BigInteger("1442695040888963407");

    public static void main(String[] args) {
        for (long seed : new long[] {0, 1, 77, -1, 123456789012345678L, Long.MAX_VALUE, Long.MIN_VALUE}) {
            rainsBySeed(seed);
        }
        numberOfDays();
        notBeyondTheLastDay();
        wordsForTheSameDay();
        beginsAtTheNextDay();
        DUE.end();
    }

    /** The rains by whole numbers without a bound, as the document writes them. */
    private static int[] rains(long seed, int days) {
        BigInteger x = BigInteger.valueOf(seed).mod(WRAP);
        int[] rains = new int[days];
        for (int i = 0; i < days; i++) {
            x = x.multiply(TIMES).add(PLUS).mod(WRAP);
            rains[i] = x.shiftRight(54).intValueExact();
        }
        return rains;
    }

    private static void rainsBySeed(long seed) {
        LeachRows x = new LeachRows(1);
        DUE.yes("storm(" + seed + ", 100)", x.storm(seed, 100));
        long all = 0;
        int[] rains = rains(seed, 100);
        for (int day = 0; day < 100; day++) {
            x.run(1);
            all += rains[day];
            DUE.same("seed " + seed + ", day " + day + ": out(0)", x.out(0), all);
        }
        x.run(1);
        DUE.same("seed " + seed + ", behind the storm: out(0)", x.out(0), all);
    }

    private static void numberOfDays() {
        LeachRows x = new LeachRows(1);
        for (int days : new int[] {0, -1, 101, Integer.MAX_VALUE, Integer.MIN_VALUE}) {
            DUE.no("storm(5, " + days + ")", x.storm(5, days));
        }
        x.run(100);
        DUE.same("out(0) after refused ones", x.out(0), 0);
        DUE.yes("storm(5, 1)", x.storm(5, 1));
        x.run(2);
        DUE.same("out(0) after one day", x.out(0), rains(5, 1)[0]);
    }

    private static void notBeyondTheLastDay() {
        LeachRows x = new LeachRows(1);
        x.run(100);
        x.run(100);
        x.run(100);
        DUE.yes("storm(1, 100) at 300", x.storm(1, 100));
        x.run(50);
        DUE.no("storm(2, 51) at 350", x.storm(2, 51));
        DUE.yes("storm(2, 50) at 350", x.storm(2, 50));
        x.run(49);
        DUE.no("storm(2, 2) at 399", x.storm(2, 2));
        DUE.yes("storm(2, 1) at 399", x.storm(2, 1));
        x.run(1);
        DUE.no("storm(2, 1) at 400", x.storm(2, 1));
    }

    private static void wordsForTheSameDay() {
        LeachRows x = new LeachRows(1);
        int[] rains = rains(9, 3);
        x.rain(0, 500000);
        x.rain(3, 11);
        x.storm(9, 3);
        x.rain(1, 2);
        x.run(1);
        DUE.same("the storm in the stead of the rain", x.out(0), rains[0]);
        x.run(1);
        DUE.same("the rain that was told later", x.out(0), rains[0] + 2);
        x.storm(4, 1);
        x.run(1);
        DUE.same("a later storm", x.out(0), rains[0] + 2 + rains(4, 1)[0]);
        x.run(1);
        DUE.same("rain behind the storm stays", x.out(0), rains[0] + 2 + rains(4, 1)[0] + 11);
    }

    private static void beginsAtTheNextDay() {
        LeachRows x = new LeachRows(1);
        x.run(5);
        x.storm(3, 2);
        x.run(1);
        DUE.same("day 5", x.out(0), rains(3, 2)[0]);
        x.run(1);
        DUE.same("day 6", x.out(0), rains(3, 2)[0] + rains(3, 2)[1]);
    }
}
