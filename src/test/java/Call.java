import java.util.Random;

/** One call of the face with its arguments, told and done on any object. */
final class Call {
    private static final String[] NAMES = {"layer", "cover", "drain", "back", "tank", "stage", "rain", "storm",
        "run", "limit", "sample", "held", "out", "balance", "passed", "trend", "odds"};
    private static final int FIRST_QUESTION = 11;
    private static final long[] EDGES = {-1, 0, 1, 2, 3, 4, 5, 6, 7, 8, 9, 99, 100, 101, 399, 400, 401, 999, 1000,
        1001, 99999, 100000, 100001, 999999, 1000000, 1000001, -999999, -1000000, -1000001, 999999999, 1000000000,
        1000000001, -2, Integer.MAX_VALUE, Integer.MIN_VALUE, Long.MAX_VALUE, Long.MIN_VALUE, 1L << 32, 1L << 63};

    private final int kind;
    private final long a;
    private final long b;
    private final long c;

    private Call(int kind, long a, long b, long c) {
        this.kind = kind;
        this.a = a;
        this.b = b;
        this.c = c;
    }

    /** Arguments of any size, edges of the document among them. */
    static Call wild(Random random) {
        return new Call(random.nextInt(NAMES.length), wildNumber(random), wildNumber(random), wildNumber(random));
    }

    /** Arguments that are mostly not refused; days of samples rise with how many calls there were. */
    static Call tame(Random random, int calls) {
        int kind = random.nextInt(NAMES.length);
        return switch (NAMES[kind]) {
            case "layer" -> new Call(kind, random.nextInt(6), random.nextInt(3000), random.nextInt(1001));
            case "cover", "drain", "back" -> new Call(kind, random.nextInt(1001), 0, 0);
            case "tank" -> new Call(kind, random.nextInt(9000), 0, 0);
            case "stage" -> new Call(kind, random.nextInt(3000), random.nextInt(300), 0);
            case "rain" -> new Call(kind, random.nextInt(400), random.nextInt(5000), 0);
            case "storm" -> new Call(kind, random.nextLong(), 1 + random.nextInt(100), 0);
            case "run" -> new Call(kind, 1 + random.nextInt(12), 0, 0);
            case "limit" -> new Call(kind, random.nextInt(900) - 1, random.nextInt(900) - 1, 0);
            case "sample" ->
                new Call(kind, random.nextInt(4), 190 * calls + random.nextInt(300), random.nextInt(41) - 20);
            case "passed" -> new Call(kind, random.nextInt(2), random.nextInt(50), 0);
            default -> new Call(kind, random.nextInt(6), random.nextInt(2), 0);
        };
    }

    /** Each argument at an edge that the document names for it, or beside it; most are not refused. */
    static Call edgy(Random random, int layers) {
        int kind = random.nextInt(NAMES.length);
        return switch (NAMES[kind]) {
            case "layer" ->
                new Call(kind, edge(random, 0, layers - 1), edge(random, 0, 1000000), edge(random, 0, 1000));
            case "cover", "drain", "back" -> new Call(kind, edge(random, 0, 1000), 0, 0);
            case "tank" -> new Call(kind, edge(random, 0, random.nextBoolean() ? 1000000000 : 2000), 0, 0);
            case "stage" -> new Call(kind, edge(random, 0, 1000000), edge(random, 0, 1000), 0);
            case "rain" -> new Call(kind, edge(random, 0, 399), edge(random, 0, 1000000), 0);
            case "storm" -> new Call(kind, random.nextLong(), edge(random, 1, 100), 0);
            case "run" -> new Call(kind, edge(random, 1, random.nextInt(4) == 0 ? 100 : 3), 0, 0);
            case "limit" -> new Call(kind, edge(random, -1, 1000000000), edge(random, -1, 1000), 0);
            case "sample" ->
                new Call(kind, edge(random, 0, 3), edge(random, 0, 100000), edge(random, -1000000, 1000000));
            case "held" -> new Call(kind, edge(random, 0, layers - 1), 0, 0);
            case "out" -> new Call(kind, edge(random, 0, 8), 0, 0);
            case "passed" -> new Call(kind, edge(random, 0, 1), edge(random, 0, 20), 0);
            default -> new Call(kind, edge(random, 0, 3), edge(random, 0, 1), 0);
        };
    }

    private static long edge(Random random, long least, long most) {
        switch (random.nextInt(16)) {
            case 0: return least - 1;
            case 1: return most + 1;
            case 2: case 3: case 4: return least;
            case 5: case 6: case 7: return most;
            case 8: return Math.min(most, least + 1);
            case 9: return Math.max(least, most - 1);
            case 10: case 11: return least + (most - least) / (1 + random.nextInt(1000));
            default: return least + (long) (random.nextDouble() * (most - least + 1));
        }
    }

    private static long wildNumber(Random random) {
        switch (random.nextInt(4)) {
            case 0: return random.nextLong();
            case 1: return random.nextInt(1002);
            default: return EDGES[random.nextInt(EDGES.length)];
        }
    }

    boolean isQuestion() {
        return kind >= FIRST_QUESTION;
    }

    boolean isRefused(long answer) {
        return switch (NAMES[kind]) {
            case "stage", "run", "sample" -> answer == LeachRows.NONE;
            default -> !isQuestion() && answer == 0;
        };
    }

    long on(LeachRows x) {
        int i = (int) a;
        int j = (int) b;
        int k = (int) c;
        return switch (NAMES[kind]) {
            case "layer" -> is(x.layer(i, j, k));
            case "cover" -> is(x.cover(i));
            case "drain" -> is(x.drain(i));
            case "back" -> is(x.back(i));
            case "tank" -> is(x.tank(a));
            case "stage" -> x.stage(i, j);
            case "rain" -> is(x.rain(i, j));
            case "storm" -> is(x.storm(a, j));
            case "run" -> x.run(i);
            case "limit" -> is(x.limit(a, b));
            case "sample" -> x.sample(i, j, k);
            case "held" -> x.held(i);
            case "out" -> x.out(i);
            case "balance" -> x.balance();
            case "passed" -> x.passed(i, j);
            case "trend" -> x.trend(i);
            default -> x.odds(i, j);
        };
    }

    /** The answer of the model; numbers are cut as the face of the class takes them. */
    long on(Model x) {
        boolean takesLongs = NAMES[kind].equals("tank") || NAMES[kind].equals("limit");
        long first = takesLongs || NAMES[kind].equals("storm") ? a : (int) a;
        long second = NAMES[kind].equals("limit") ? b : (int) b;
        return x.answer(NAMES[kind], first, second, (int) c);
    }

    private static long is(boolean answer) {
        return answer ? 1 : 0;
    }

    @Override
    public String toString() {
        return NAMES[kind] + " with " + a + ", " + b + ", " + c;
    }
}
