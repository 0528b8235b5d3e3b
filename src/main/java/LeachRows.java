import java.util.Arrays;

/** Water in a landfill, day by day in whole units, and wells with exact rank tests. */
public final class LeachRows {
    public static final int NONE = -1;

    private static final int MOST_LAYERS = 6;
    private static final int MOST_STAGES = 4;
    private static final int MOST_DAYS = 400;
    private static final int MOST_DAYS_A_CALL = 100;
    private static final int WELLS = 4;
    private static final int MOST_SAMPLES = 8;
    private static final int MOST_FALLING_PAIRS = MOST_SAMPLES * (MOST_SAMPLES - 1) / 2;
    private static final int LAST_SAMPLE_DAY = 100000;
    private static final int WHOLE = 1000;
    private static final int MILLION = 1000000;
    private static final long BILLION = 1000000000L;
    private static final long NO_LIMIT = -1L;

    private static final long STORM_TIMES = 6364136223846793005L;
    private static final long STORM_PLUS = 1442695040888963407L;
    private static final int STORM_SHIFT = 54;

    // The places of the sums are the numbers by which out() is asked for them.
    private static final int RAINED = 0;
    private static final int KEPT_OFF = 1;
    private static final int SEEPED = 2;
    private static final int LEAKED = 3;
    private static final int OVERFLOWED = 4;
    private static final int KEPT = 5;
    private static final int OUTFLOW = 6;
    private static final int IN_TANK = 7;
    private static final int TO_GO_BACK = 8;
    private static final int SUMS = 9;

    // Greatest common divisors of numbers up to 8! need fewer turns than this.
    private static final int MOST_DIVISOR_TURNS = 64;

    private final long[] water;
    private final int[] holds;
    private final int[] passes;
    private final int[] rates = new int[MOST_STAGES];
    private final int[] keeps = new int[MOST_STAGES];
    private final int[] rains = new int[MOST_DAYS];
    private final long[] outflows = new long[MOST_DAYS];
    private final long[] sums = new long[SUMS];
    private final Well[] wells = new Well[WELLS];
    private final int[] ordersByFalls = new int[MOST_FALLING_PAIRS + 1];
    private int coverParts;
    private int drainParts;
    private int returnParts;
    private long tankRoom;
    private int stageCount;
    private int nextDay;
    private long dayLimit = NO_LIMIT;
    private long meanLimit = NO_LIMIT;

    public LeachRows(int layers) {
        int count = within(layers, 1, MOST_LAYERS) ? layers : 1;
        water = new long[count];
        holds = new int[count];
        passes = new int[count];
        Arrays.fill(passes, WHOLE);
        for (int w = 0; w < WELLS; w++) {
            wells[w] = new Well();
        }
    }

    public boolean layer(int k, int holds, int passes) {
        if (!isLayer(k) || !within(holds, 0, MILLION) || !isParts(passes)) {
            return false;
        }
        this.holds[k] = holds;
        this.passes[k] = passes;
        return true;
    }

    public boolean cover(int parts) {
        if (!isParts(parts)) {
            return false;
        }
        coverParts = parts;
        return true;
    }

    public boolean drain(int parts) {
        if (!isParts(parts)) {
            return false;
        }
        drainParts = parts;
        return true;
    }

    public boolean back(int parts) {
        if (!isParts(parts)) {
            return false;
        }
        returnParts = parts;
        return true;
    }

    public boolean tank(long room) {
        if (!within(room, 0, BILLION)) {
            return false;
        }
        tankRoom = room;
        return true;
    }

    public int stage(int rate, int keeps) {
        if (stageCount >= MOST_STAGES || !within(rate, 0, MILLION) || !isParts(keeps)) {
            return NONE;
        }
        rates[stageCount] = rate;
        this.keeps[stageCount] = keeps;
        stageCount++;
        return stageCount - 1;
    }

    public boolean rain(int day, int v) {
        if (!within(day, nextDay, MOST_DAYS - 1) || !within(v, 0, MILLION)) {
            return false;
        }
        rains[day] = v;
        return true;
    }

    public boolean storm(long seed, int days) {
        if (!areDaysToRun(days)) {
            return false;
        }
        long x = seed;
        for (int i = 0; i < days; i++) {
            x = x * STORM_TIMES + STORM_PLUS;
            rains[nextDay + i] = (int) (x >>> STORM_SHIFT);
        }
        return true;
    }

    public int run(int days) {
        if (!areDaysToRun(days)) {
            return NONE;
        }
        for (int i = 0; i < days; i++) {
            runNextDay();
        }
        return nextDay;
    }

    public long held(int layer) {
        return isLayer(layer) ? water[layer] : NONE;
    }

    public long out(int what) {
        return within(what, 0, SUMS - 1) ? sums[what] : NONE;
    }

    public long balance() {
        // What seeped is no end of its own: it leaked or came into the tank.
        long rest = sums[RAINED] - sums[KEPT_OFF] - sums[LEAKED] - sums[OVERFLOWED]
            - sums[KEPT] - sums[OUTFLOW] - sums[IN_TANK] - sums[TO_GO_BACK];
        for (int k = 0; k < water.length; k++) {
            rest -= water[k];
        }
        return rest;
    }

    public boolean limit(long day, long mean) {
        if (!within(day, NO_LIMIT, BILLION) || !within(mean, NO_LIMIT, BILLION)) {
            return false;
        }
        dayLimit = day;
        meanLimit = mean;
        return true;
    }

    public int passed(int which, int k) {
        if (which == 0) {
            return dayThatPasses(k);
        }
        return which == 1 ? dayUpToWhichMeanPasses(k) : NONE;
    }

    public int sample(int well, int day, int v) {
        if (!isWell(well) || !within(day, 0, LAST_SAMPLE_DAY) || !within(v, -MILLION, MILLION)) {
            return NONE;
        }
        return wells[well].take(day, v) ? wells[well].count : NONE;
    }

    public int trend(int well) {
        return isWell(well) ? wells[well].risesLessFalls() : 0;
    }

    public int odds(int well, int part) {
        if (!isWell(well) || !within(part, 0, 1)) {
            return NONE;
        }
        int count = wells[well].count;
        int far = ordersAsFar(count, wells[well].risesLessFalls());
        int all = ordersOf(count);
        int divisor = commonDivisor(all, far);
        return (part == 0 ? far : all) / divisor;
    }

    private static boolean within(long v, long least, long most) {
        return v >= least && v <= most;
    }

    private static boolean isParts(int parts) {
        return within(parts, 0, WHOLE);
    }

    private static long partsOf(int parts, long amount) {
        return amount * parts / WHOLE;
    }

    private boolean isLayer(int k) {
        return within(k, 0, water.length - 1);
    }

    private static boolean isWell(int well) {
        return within(well, 0, WELLS - 1);
    }

    private boolean areDaysToRun(int days) {
        return within(days, 1, MOST_DAYS_A_CALL) && nextDay + days <= MOST_DAYS;
    }

    private void runNextDay() {
        comeIn(rains[nextDay]);
        long seeped = passDown();
        fillTank(seeped);
        long cleaned = clean();
        outflows[nextDay] = partAtTheEnd(cleaned);
        nextDay++;
    }

    private void comeIn(long rain) {
        long keptOff = partsOf(coverParts, rain);
        sums[RAINED] += rain;
        sums[KEPT_OFF] += keptOff;
        water[0] += rain - keptOff + sums[TO_GO_BACK];
    }

    /** Lets each layer pass into the next one; answers what went out of the last. */
    private long passDown() {
        long passing = 0;
        for (int k = 0; k < water.length; k++) {
            water[k] += passing;
            long above = Math.max(0L, water[k] - holds[k]);
            passing = partsOf(passes[k], above);
            water[k] -= passing;
        }
        return passing;
    }

    private void fillTank(long seeped) {
        long drained = partsOf(drainParts, seeped);
        sums[SEEPED] += seeped;
        sums[LEAKED] += seeped - drained;
        long filled = sums[IN_TANK] + drained;
        long above = Math.max(0L, filled - tankRoom);
        sums[OVERFLOWED] += above;
        sums[IN_TANK] = filled - above;
    }

    /** Lets the stages clean; answers what comes out of the last, 0 without stages. */
    private long clean() {
        if (stageCount == 0) {
            return 0;
        }
        // The whole tank stands before the first stage: what is not taken stays in it.
        long flowing = sums[IN_TANK];
        sums[IN_TANK] = 0;
        for (int s = 0; s < stageCount; s++) {
            long taken = Math.min(rates[s], flowing);
            long kept = partsOf(keeps[s], taken);
            sums[IN_TANK] += flowing - taken;
            sums[KEPT] += kept;
            flowing = taken - kept;
        }
        return flowing;
    }

    /** Parts what was cleaned into what is to go back and outflow; answers the outflow. */
    private long partAtTheEnd(long cleaned) {
        long goesBack = partsOf(returnParts, cleaned);
        long outflow = cleaned - goesBack;
        sums[TO_GO_BACK] = goesBack;
        sums[OUTFLOW] += outflow;
        return outflow;
    }

    private int dayThatPasses(int k) {
        if (dayLimit == NO_LIMIT) {
            return NONE;
        }
        int seen = 0;
        for (int day = 0; day < nextDay; day++) {
            if (outflows[day] > dayLimit) {
                if (seen == k) {
                    return day;
                }
                seen++;
            }
        }
        return NONE;
    }

    private int dayUpToWhichMeanPasses(int k) {
        if (meanLimit == NO_LIMIT) {
            return NONE;
        }
        int seen = 0;
        long together = 0;
        for (int day = 0; day < nextDay; day++) {
            together += outflows[day];
            if (together > meanLimit * (day + 1)) {
                if (seen == k) {
                    return day;
                }
                seen++;
            }
        }
        return NONE;
    }

    /** How many orders of so many values have a trend as far from 0 as this one, or further. */
    private int ordersAsFar(int count, int trend) {
        countOrdersByFalls(count);
        int pairs = count * (count - 1) / 2;
        int far = 0;
        for (int falls = 0; falls < ordersByFalls.length && falls <= pairs; falls++) {
            if (Math.abs(pairs - 2 * falls) >= Math.abs(trend)) {
                far += ordersByFalls[falls];
            }
        }
        return far;
    }

    // Orders with equally many falling pairs have the same trend, so they are
    // counted by these pairs: no walk through all n! orders is needed.
    private void countOrdersByFalls(int count) {
        Arrays.fill(ordersByFalls, 0);
        ordersByFalls[0] = 1;
        for (int size = 2; size <= count; size++) {
            addValueToOrders(size);
        }
    }

    // The size-th value adds 0 .. size - 1 falling pairs, each in one way: every place
    // becomes the sum of itself and the size - 1 before it, by sums from the start.
    private void addValueToOrders(int size) {
        for (int falls = 1; falls < ordersByFalls.length; falls++) {
            ordersByFalls[falls] += ordersByFalls[falls - 1];
        }
        for (int falls = ordersByFalls.length - 1; falls >= size; falls--) {
            ordersByFalls[falls] -= ordersByFalls[falls - size];
        }
    }

    private static int ordersOf(int count) {
        int orders = 1;
        for (int size = 2; size <= count; size++) {
            orders *= size;
        }
        return orders;
    }

    private static int commonDivisor(int a, int b) {
        int larger = a;
        int smaller = b;
        for (int turn = 0; turn < MOST_DIVISOR_TURNS && smaller != 0; turn++) {
            int rest = larger % smaller;
            larger = smaller;
            smaller = rest;
        }
        return Math.max(1, larger);
    }

    /** The samples of one well, in the order of their days. */
    private static final class Well {
        private final int[] values = new int[MOST_SAMPLES];
        private int count;
        private int lastDay = -1;

        /** Takes one more sample, unless it is full, the day is too early or the value is there. */
        boolean take(int day, int v) {
            if (count >= MOST_SAMPLES || day <= lastDay || has(v)) {
                return false;
            }
            values[count] = v;
            count++;
            lastDay = day;
            return true;
        }

        private boolean has(int v) {
            for (int i = 0; i < count; i++) {
                if (values[i] == v) {
                    return true;
                }
            }
            return false;
        }

        int risesLessFalls() {
            int sum = 0;
            for (int later = 1; later < count; later++) {
                for (int earlier = 0; earlier < later; earlier++) {
                    sum += Integer.compare(values[later], values[earlier]);
                }
            }
            return sum;
        }
    }
}
