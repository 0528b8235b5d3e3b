import java.math.BigInteger;
import java.util.ArrayList;
import java.util.HashMap;
import java.util.List;
import java.util.Map;

/**
 * The document once more, in the plainest words and by other means than the class: whole numbers without
 * a bound, lists, and a walk through all orders.
 */
final class Model {
    private static final BigInteger WRAP = BigInteger.ONE.shiftLeft(64);
    private static final BigInteger TIMES = new BigInteger("6364136223846793005");
    private static final BigInteger PLUS = new BigInteger("1442695040888963407");

    private final int layers;
    private final long[] water = new long[6];
    private final long[] holds = new long[6];
    private final long[] passes = {1000, 1000, 1000, 1000, 1000, 1000};
    private final List<long[]> stages = new ArrayList<>();
    private final Map<Integer, Long> rains = new HashMap<>();
    private final List<Long> outflows = new ArrayList<>();
    private final List<List<long[]>> wells = new ArrayList<>();
    private final Map<Integer, int[]> farByCount = new HashMap<>();
    private final long[] out = new long[9];
    private long cover;
    private long drain;
    private long back;
    private long room;
    private long dayLimit = -1;
    private long meanLimit = -1;

    Model(int layers) {
        this.layers = layers >= 1 && layers <= 6 ? layers : 1;
        for (int well = 0; well < 4; well++) {
            wells.add(new ArrayList<>());
        }
    }

    /** The call of this name; a boolean counts 1 or 0. */
    long answer(String name, long a, long b, long c) {
        return switch (name) {
            case "layer" -> layer(a, b, c);
            case "cover" -> between(a, 0, 1000) ? told(cover = a) : 0;
            case "drain" -> between(a, 0, 1000) ? told(drain = a) : 0;
            case "back" -> between(a, 0, 1000) ? told(back = a) : 0;
            case "tank" -> between(a, 0, 1000000000) ? told(room = a) : 0;
            case "stage" -> stage(a, b);
            case "rain" -> rain(a, b);
            case "storm" -> storm(a, b);
            case "run" -> run(a);
            case "limit" -> limit(a, b);
            case "sample" -> sample(a, b, c);
            case "held" -> between(a, 0, layers - 1) ? water[(int) a] : -1;
            case "out" -> between(a, 0, 8) ? out[(int) a] : -1;
            case "balance" -> 0;
            case "passed" -> passed(a, b);
            case "trend" -> between(a, 0, 3) ? trend(valuesOf(a)) : 0;
            default -> odds(a, b);
        };
    }

    private static boolean between(long v, long least, long most) {
        return least <= v && v <= most;
    }

    private static long told(long ignored) {
        return 1;
    }

    private int next() {
        return outflows.size();
    }

    private long layer(long k, long held, long passed) {
        if (!between(k, 0, layers - 1) || !between(held, 0, 1000000) || !between(passed, 0, 1000)) {
            return 0;
        }
        holds[(int) k] = held;
        passes[(int) k] = passed;
        return 1;
    }

    private long stage(long rate, long keeps) {
        if (!between(rate, 0, 1000000) || !between(keeps, 0, 1000) || stages.size() == 4) {
            return -1;
        }
        stages.add(new long[] {rate, keeps});
        return stages.size() - 1;
    }

    private long rain(long day, long v) {
        if (!between(day, 0, 399) || day < next() || !between(v, 0, 1000000)) {
            return 0;
        }
        rains.put((int) day, v);
        return 1;
    }

    private long storm(long seed, long days) {
        if (!between(days, 1, 100) || next() + days - 1 > 399) {
            return 0;
        }
        BigInteger x = BigInteger.valueOf(seed);
        for (int day = next(); day < next() + days; day++) {
            x = x.multiply(TIMES).add(PLUS).mod(WRAP);
            rains.put(day, x.divide(BigInteger.ONE.shiftLeft(54)).longValueExact());
        }
        return 1;
    }

    private long run(long days) {
        if (!between(days, 1, 100) || next() + days - 1 > 399) {
            return -1;
        }
        for (int i = 0; i < days; i++) {
            day();
        }
        return next();
    }

    private static long parts(long x, long n) {
        return BigInteger.valueOf(n).multiply(BigInteger.valueOf(x)).divide(BigInteger.valueOf(1000)).longValueExact();
    }

    private void day() {
        long rain = rains.getOrDefault(next(), 0L);
        long off = parts(cover, rain);
        out[0] += rain;
        out[1] += off;
        water[0] += rain - off + out[8];
        out[8] = 0;
        for (int k = 0; k < layers; k++) {
            if (water[k] > holds[k]) {
                long goes = parts(passes[k], water[k] - holds[k]);
                water[k] -= goes;
                if (k + 1 < layers) {
                    water[k + 1] += goes;
                } else {
                    seep(goes);
                }
            }
        }
        if (out[7] > room) {
            out[4] += out[7] - room;
            out[7] = room;
        }
        outflows.add(stages.isEmpty() ? 0 : cleaned());
    }

    private void seep(long seeped) {
        out[2] += seeped;
        out[7] += parts(drain, seeped);
        out[3] += seeped - parts(drain, seeped);
    }

    private long cleaned() {
        long came = -1;
        for (long[] stage : stages) {
            boolean first = came == -1;
            long there = first ? out[7] : came;
            long takes = there < stage[0] ? there : stage[0];
            if (first) {
                out[7] -= takes;
            } else {
                out[7] += there - takes;
            }
            out[5] += parts(stage[1], takes);
            came = takes - parts(stage[1], takes);
        }
        out[8] = parts(back, came);
        out[6] += came - out[8];
        return came - out[8];
    }

    private long limit(long day, long mean) {
        if (!between(day, -1, 1000000000) || !between(mean, -1, 1000000000)) {
            return 0;
        }
        dayLimit = day;
        meanLimit = mean;
        return 1;
    }

    private long passed(long which, long k) {
        List<Integer> days = new ArrayList<>();
        long together = 0;
        for (int day = 0; day < next(); day++) {
            together += outflows.get(day);
            if (which == 0 && dayLimit >= 0 && outflows.get(day) > dayLimit) {
                days.add(day);
            }
            if (which == 1 && meanLimit >= 0 && together > meanLimit * (day + 1)) {
                days.add(day);
            }
        }
        return between(k, 0, days.size() - 1) ? days.get((int) k) : -1;
    }

    private long sample(long well, long day, long v) {
        if (!between(well, 0, 3) || !between(day, 0, 100000) || !between(v, -1000000, 1000000)) {
            return -1;
        }
        List<long[]> samples = wells.get((int) well);
        for (long[] sample : samples) {
            if (sample[0] >= day || sample[1] == v) {
                return -1;
            }
        }
        if (samples.size() == 8) {
            return -1;
        }
        samples.add(new long[] {day, v});
        return samples.size();
    }

    private List<Long> valuesOf(long well) {
        List<Long> values = new ArrayList<>();
        for (long[] sample : wells.get((int) well)) {
            values.add(sample[1]);
        }
        return values;
    }

    private static int trend(List<Long> values) {
        int trend = 0;
        for (int i = 0; i < values.size(); i++) {
            for (int j = i + 1; j < values.size(); j++) {
                trend += values.get(j) > values.get(i) ? 1 : -1;
            }
        }
        return trend;
    }

    private long odds(long well, long part) {
        if (!between(well, 0, 3) || !between(part, 0, 1)) {
            return -1;
        }
        List<Long> values = valuesOf(well);
        int[] far = farByCount.computeIfAbsent(values.size(), Model::farOf);
        BigInteger above = BigInteger.valueOf(far[Math.abs(trend(values))]);
        BigInteger below = BigInteger.valueOf(far[0]);
        return (part == 0 ? above : below).divide(above.gcd(below)).longValueExact();
    }

    /** By how far from 0 a trend is: how many of all orders have one as far or further. */
    private static int[] farOf(int count) {
        int[] far = new int[29];
        walk(new ArrayList<>(), count, far);
        return far;
    }

    private static void walk(List<Long> placed, int count, int[] far) {
        if (placed.size() == count) {
            for (int t = 0; t <= Math.abs(trend(placed)); t++) {
                far[t]++;
            }
            return;
        }
        for (long v = 0; v < count; v++) {
            if (!placed.contains(v)) {
                placed.add(v);
                walk(placed, count, far);
                placed.remove(placed.size() - 1);
            }
        }
    }
}
