public final class Promise18OddsTest {
    private static final Due DUE = new Due("Promise 18: odds");

    public static void main(String[] args) {
        withoutSamples();
        wrongInputs();
        knownOdds();
        for (int count = 1; count <= 6; count++) {
            allOrdersOf(count);
        }
        eachTrendOf(7);
        eachTrendOf(8);
        wellsAreApart();
        DUE.end();
    }

    private static void withoutSamples() {
        LeachRows x = new LeachRows(1);
        for (int well = 0; well < 4; well++) {
            DUE.same("odds(" + well + ", 0)", x.odds(well, 0), 1);
            DUE.same("odds(" + well + ", 1)", x.odds(well, 1), 1);
        }
    }

    private static void wrongInputs() {
        LeachRows x = new LeachRows(1);
        x.sample(0, 0, 0);
        for (int wrong : new int[] {-1, 2, 4, Integer.MAX_VALUE, Integer.MIN_VALUE}) {
            DUE.same("odds(0, " + wrong + ")", x.odds(0, wrong), LeachRows.NONE);
        }
        for (int wrong : new int[] {-1, 4, Integer.MAX_VALUE, Integer.MIN_VALUE}) {
            DUE.same("odds(" + wrong + ", 0)", x.odds(wrong, 0), LeachRows.NONE);
            DUE.same("odds(" + wrong + ", 1)", x.odds(wrong, 1), LeachRows.NONE);
        }
    }

    private static void knownOdds() {
        odds(1, 1, 5, 6);
        odds(1, 3, 1, 2, 3);
        odds(1, 3, 3, 2, 1);
        odds(1, 1, 1, 3, 2);
        odds(1, 12, 4, 3, 2, 1);
        odds(1, 3, 1, 2, 4, 3);
        odds(1, 20160, 8, 7, 6, 5, 4, 3, 2, 1);
        odds(1, 2520, 1, 2, 3, 4, 5, 6, 8, 7);
    }

    private static void odds(int above, int below, int... values) {
        LeachRows x = withSamples(values);
        DUE.same(values.length + " samples, above", x.odds(0, 0), above);
        DUE.same(values.length + " samples, below", x.odds(0, 1), below);
    }

    private static LeachRows withSamples(int[] values) {
        LeachRows x = new LeachRows(1);
        for (int i = 0; i < values.length; i++) {
            x.sample(0, i, values[i]);
        }
        return x;
    }

    /** far[t]: how many of all orders, walked through one by one, have a trend of t from 0 or more. */
    private static int[] farByWalk(int count) {
        int[] far = new int[30];
        walk(new int[count], 0, far, null);
        return far;
    }

    private interface Seen {
        void order(int[] order, int trend);
    }

    private static void walk(int[] order, int placed, int[] far, Seen seen) {
        if (placed == order.length) {
            int trend = trend(order);
            for (int t = 0; t <= Math.abs(trend); t++) {
                far[t]++;
            }
            if (seen != null) {
                seen.order(order, trend);
            }
            return;
        }
        for (int v = 1; v <= order.length; v++) {
            boolean there = false;
            for (int i = 0; i < placed; i++) {
                there |= order[i] == v;
            }
            if (!there) {
                order[placed] = v;
                walk(order, placed + 1, far, seen);
            }
        }
    }

    private static int trend(int[] order) {
        int trend = 0;
        for (int i = 0; i < order.length; i++) {
            for (int j = i + 1; j < order.length; j++) {
                trend += order[j] > order[i] ? 1 : -1;
            }
        }
        return trend;
    }

    private static void compare(int[] order, int trend, int[] far) {
        LeachRows x = withSamples(order);
        int above = far[Math.abs(trend)];
        int below = far[0];
        for (int d = 2; d <= above; d++) {
            while (above % d == 0 && below % d == 0) {
                above /= d;
                below /= d;
            }
        }
        String what = order.length + " samples of trend " + trend;
        DUE.same(what + ", above", x.odds(0, 0), above);
        DUE.same(what + ", below", x.odds(0, 1), below);
        DUE.same(what + ", trend", x.trend(0), trend);
    }

    private static void allOrdersOf(int count) {
        int[] far = farByWalk(count);
        walk(new int[count], 0, new int[30], (order, trend) -> compare(order, trend, far));
    }

    private static void eachTrendOf(int count) {
        int[] far = farByWalk(count);
        boolean[] done = new boolean[61];
        walk(new int[count], 0, new int[30], (order, trend) -> {
            if (!done[trend + 30]) {
                done[trend + 30] = true;
                compare(order, trend, far);
            }
        });
    }

    private static void wellsAreApart() {
        LeachRows x = new LeachRows(1);
        for (int i = 0; i < 8; i++) {
            x.sample(3, i, i);
        }
        for (int i = 0; i < 3; i++) {
            x.sample(1, i, -i);
        }
        for (int turn = 0; turn < 2; turn++) {
            DUE.same("odds(3, 1)", x.odds(3, 1), 20160);
            DUE.same("odds(1, 1)", x.odds(1, 1), 3);
            DUE.same("odds(0, 1)", x.odds(0, 1), 1);
        }
    }
}
