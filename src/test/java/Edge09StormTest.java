import java.math.BigInteger;

/** The edges that promise 9 and the storms of "Terms" name. */
public final class Edge09StormTest {
    private static final Due DUE = new Due("Edges of promise 9: storm");
    private static final BigInteger WRAP = BigInteger.ONE.shiftLeft(64);
    private static final BigInteger TIMES = new BigInteger("6364136223846793005");
    private static final BigInteger PLUS = new BigInteger("1442695040888963407");

    public static void main(String[] args) {
        DUE.sentence("Storms for 1 .. 100 days", Edge09StormTest::numbersOfDays);
        DUE.sentence("false when these are not such", Edge09StormTest::refusedOnes);
        DUE.sentence("or would go beyond day 399", Edge09StormTest::lastDays);
        DUE.sentence("for days from the next one on that is to run, so many", Edge09StormTest::justThoseDays);
        DUE.sentence("x is the seed at first", Edge09StormTest::anySeed);
        DUE.sentence("longs run over", Edge09StormTest::whereLongsTurn);
        DUE.sentence("the day's rain is x >>> 54", Edge09StormTest::leastAndMostRain);
        DUE.sentence("(in the stead of what was told)", Edge09StormTest::inTheStead);
        DUE.end();
    }

    /** The rains by whole numbers without a bound, as the document writes them. */
    private static int[] rains(long seed, int days) {
        BigInteger x = BigInteger.valueOf(seed).mod(WRAP);
        int[] rains = new int[days];
        for (int i = 0; i < days; i++) {
            x = x.multiply(TIMES).add(PLUS).mod(WRAP);
            rains[i] = x.shiftRight(54).intValueExact();
        }
        return rains;
    }

    /** The seed whose first x is this one. */
    private static long seedOf(long x) {
        return BigInteger.valueOf(x).subtract(PLUS).multiply(TIMES.modInverse(WRAP)).mod(WRAP).longValue();
    }

    /** Runs so many days, each with the rain that is due. */
    private static void rained(String what, LeachRows x, int... rains) {
        long before = x.out(0);
        for (int i = 0; i < rains.length; i++) {
            x.run(1);
            DUE.same(what + ", its day " + i + ": out(0)", x.out(0), before + rains[i]);
            before = x.out(0);
        }
    }

    private static void numbersOfDays() {
        for (int days : new int[] {1, 2, 99, 100}) {
            LeachRows x = new LeachRows(1);
            DUE.yes("storm(31, " + days + ")", x.storm(31, days));
            rained("storm(31, " + days + ")", x, rains(31, days));
            rained("behind storm(31, " + days + ")", x, 0, 0);
        }
    }

    private static void refusedOnes() {
        for (int next : new int[] {5, 150, 299}) {
            for (int days : new int[] {0, -1, -100, 101, 102, 396, Integer.MAX_VALUE, Integer.MIN_VALUE}) {
                refused(next, days);
            }
        }
        DUE.saysNo("new: storm(8, 101)", () -> new LeachRows(1), x -> x.storm(8, 101));
        DUE.saysNo("new: storm(8, 0)", () -> new LeachRows(1), x -> x.storm(8, 0));
    }

    private static void refused(int next, int days) {
        DUE.saysNo("at " + next + ": storm(8, " + days + ")", () -> Fill.busyAt(next), x -> x.storm(8, days));
    }

    private static void lastDays() {
        for (int next : new int[] {300, 301, 350, 398, 399}) {
            int left = 400 - next;
            refused(next, left + 1);
            refused(next, 100 + (next == 300 ? 1 : 0));
            LeachRows x = Fill.emptyAt(next);
            DUE.yes("at " + next + ": storm(8, " + left + ")", x.storm(8, left));
            rained("at " + next, x, rains(8, left));
            DUE.same("day 399 was the last", x.run(1), LeachRows.NONE);
        }
        for (int days : new int[] {1, 2, 100}) {
            refused(400, days);
        }
    }

    private static void justThoseDays() {
        LeachRows x = new LeachRows(1);
        for (int day = 0; day < 12; day++) {
            x.rain(day, 2000 + day);
        }
        rained("before the storm", x, 2000, 2001, 2002, 2003);
        DUE.yes("storm(6, 3)", x.storm(6, 3));
        rained("the storm", x, rains(6, 3));
        rained("behind the storm", x, 2007, 2008, 2009, 2010, 2011, 0);
    }

    private static void anySeed() {
        long[] seeds = {0, 1, -1, 2, 1L << 31, 1L << 32, -(1L << 32), Integer.MIN_VALUE, Long.MAX_VALUE,
            Long.MAX_VALUE - 1, Long.MIN_VALUE, Long.MIN_VALUE + 1};
        for (long seed : seeds) {
            LeachRows x = new LeachRows(1);
            DUE.yes("storm(" + seed + ", 20)", x.storm(seed, 20));
            rained("seed " + seed, x, rains(seed, 20));
        }
    }

    private static void whereLongsTurn() {
        for (long first : new long[] {Long.MAX_VALUE, Long.MIN_VALUE, -1, 0, 1, 1L << 53, 1L << 54, -(1L << 54)}) {
            LeachRows x = new LeachRows(1);
            long seed = seedOf(first);
            x.storm(seed, 5);
            rained("seed " + seed, x, rains(seed, 5));
        }
    }

    private static void leastAndMostRain() {
        long step = 1L << 54;
        firstRain(0, 0);
        firstRain(step - 1, 0);
        firstRain(step, 1);
        firstRain(Long.MAX_VALUE, 511);
        firstRain(Long.MIN_VALUE, 512);
        firstRain(-step - 1, 1022);
        firstRain(-step, 1023);
        firstRain(-1, 1023);
    }

    private static void firstRain(long x, int rain) {
        LeachRows fill = new LeachRows(1);
        fill.storm(seedOf(x), 1);
        rained("x = " + x, fill, rain);
    }

    private static void inTheStead() {
        LeachRows x = new LeachRows(1);
        x.rain(0, 1000000);
        x.rain(1, 1000000);
        x.storm(seedOf(0), 1);
        rained("a storm of 0 behind rain", x, 0, 1000000);
        x.storm(11, 4);
        x.storm(12, 2);
        rained("a shorter storm behind a longer one", x, rains(12, 2));
        rained("what is left of the longer one", x, rains(11, 4)[2], rains(11, 4)[3], 0);
        x.storm(13, 2);
        x.rain(7, 3);
        rained("rain told behind a storm", x, 3, rains(13, 2)[1]);
        x.storm(14, 2);
        DUE.no("storm(15, 0)", x.storm(15, 0));
        DUE.no("storm(15, 101)", x.storm(15, 101));
        rained("a refused storm is none", x, rains(14, 2));
    }
}
