import java.util.Random;

/** One call of the face with its arguments, told and done on any object. */
final class Call {
    private static final String[] NAMES = {"layer", "cover", "drain", "back", "tank", "stage", "rain", "storm",
        "run", "limit", "sample", "held", "out", "balance", "passed", "trend", "odds"};
    private static final int FIRST_QUESTION = 11;
    private static final long[] EDGES = {-1, 0, 1, 2, 3, 4, 5, 6, 7, 8, 9, 99, 100, 101, 399, 400, 401, 999, 1000,
        1001, 99999, 100000, 100001, 999999, 1000000, 1000001, -999999, -1000000, -1000001, 999999999, 1000000000,
        1000000001, -2, Integer.MAX_VALUE, Integer.MIN_VALUE, Long.MAX_VALUE, Long.MIN_VALUE, 1L << 32, 1L << 63};

    private final int kind;
    private final long a;
    private final long b;
    private final long c;

    private Call(int kind, long a, long b, long c) {
        this.kind = kind;
        this.a = a;
        this.b = b;
        this.c = c;
    }

    /** Arguments of any size, edges of the document among them. */
    static Call wild(Random random) {
        return new Call(random.nextInt(NAMES.length), wildNumber(random), wildNumber(random), wildNumber(random));
    }

    /** Arguments that are mostly not refused. */
    static Call tame(Random random) {
        int kind = random.nextInt(NAMES.length);
        return switch (NAMES[kind]) {
            case "layer" -> new Call(kind, random.nextInt(6), random.nextInt(3000), random.nextInt(1001));
            case "cover", "drain", "back" -> new Call(kind, random.nextInt(1001), 0, 0);
            case "tank" -> new Call(kind, random.nextInt(9000), 0, 0);
            case "stage" -> new Call(kind, random.nextInt(3000), random.nextInt(300), 0);
            case "rain" -> new Call(kind, random.nextInt(400), random.nextInt(5000), 0);
            case "storm" -> new Call(kind, random.nextLong(), 1 + random.nextInt(100), 0);
            case "run" -> new Call(kind, 1 + random.nextInt(12), 0, 0);
            case "limit" -> new Call(kind, random.nextInt(900) - 1, random.nextInt(900) - 1, 0);
            case "sample" -> new Call(kind, random.nextInt(4), random.nextInt(100001), random.nextInt(21) - 10);
            case "passed" -> new Call(kind, random.nextInt(2), random.nextInt(50), 0);
            default -> new Call(kind, random.nextInt(6), random.nextInt(2), 0);
        };
    }

    private static long wildNumber(Random random) {
        switch (random.nextInt(4)) {
            case 0: return random.nextLong();
            case 1: return random.nextInt(1002);
            default: return EDGES[random.nextInt(EDGES.length)];
        }
    }

    boolean isQuestion() {
        return kind >= FIRST_QUESTION;
    }

    boolean isRefused(long answer) {
        return switch (NAMES[kind]) {
            case "stage", "run", "sample" -> answer == LeachRows.NONE;
            default -> !isQuestion() && answer == 0;
        };
    }

    long on(LeachRows x) {
        int i = (int) a;
        int j = (int) b;
        int k = (int) c;
        return switch (NAMES[kind]) {
            case "layer" -> is(x.layer(i, j, k));
            case "cover" -> is(x.cover(i));
            case "drain" -> is(x.drain(i));
            case "back" -> is(x.back(i));
            case "tank" -> is(x.tank(a));
            case "stage" -> x.stage(i, j);
            case "rain" -> is(x.rain(i, j));
            case "storm" -> is(x.storm(a, j));
            case "run" -> x.run(i);
            case "limit" -> is(x.limit(a, b));
            case "sample" -> x.sample(i, j, k);
            case "held" -> x.held(i);
            case "out" -> x.out(i);
            case "balance" -> x.balance();
            case "passed" -> x.passed(i, j);
            case "trend" -> x.trend(i);
            default -> x.odds(i, j);
        };
    }

    private static long is(boolean answer) {
        return answer ? 1 : 0;
    }

    @Override
    public String toString() {
        return NAMES[kind] + " with " + a + ", " + b + ", " + c;
    }
}
