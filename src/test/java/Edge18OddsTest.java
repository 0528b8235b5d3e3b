/** The edges that promise 18 and the odds of "Terms" name. */
public final class Edge18OddsTest {
    private static final Due DUE = new Due("Edges of promise 18: odds");

    /** For 0 .. 8 values: how many orders there are. */
    private static final int[] ORDERS = {1, 1, 2, 6, 24, 120, 720, 5040, 40320};

    public static void main(String[] args) {
        DUE.sentence("(of a well without samples: 1 over 1)", Edge18OddsTest::withoutSamples);
        DUE.sentence("0 above, 1 below; NONE when there are none such", Edge18OddsTest::noneSuch);
        DUE.sentence("of all orders (n! of them)", Edge18OddsTest::furthest);
        DUE.sentence("a trend as far from 0 or further", Edge18OddsTest::asFarAsItself);
        DUE.sentence("as far from 0, on both sides", Edge18OddsTest::riseAndFallAlike);
        DUE.sentence("as far from 0 or further: all, of the nearest", Edge18OddsTest::nearest);
        DUE.sentence("in lowest terms", Edge18OddsTest::lowestTerms);
        DUE.sentence("A call that is refused changes nothing", Edge18OddsTest::behindRefusedSamples);
        DUE.sentence("a question changes nothing", Edge18OddsTest::askedInVain);
        DUE.end();
    }

    private static LeachRows with(int... values) {
        LeachRows x = new LeachRows(1);
        for (int i = 0; i < values.length; i++) {
            x.sample(1, i, values[i]);
        }
        return x;
    }

    private static void odds(String what, LeachRows x, int well, int above, int below) {
        DUE.same(what + ": odds(" + well + ", 0)", x.odds(well, 0), above);
        DUE.same(what + ": odds(" + well + ", 1)", x.odds(well, 1), below);
    }

    private static void withoutSamples() {
        LeachRows x = new LeachRows(1);
        for (int well = 0; well < 4; well++) {
            odds("no samples", x, well, 1, 1);
        }
        DUE.same("a refused sample", x.sample(0, -1, 0), LeachRows.NONE);
        odds("still none", x, 0, 1, 1);
        odds("one sample", with(5), 1, 1, 1);
        odds("another well has one", with(5), 0, 1, 1);
    }

    private static void noneSuch() {
        LeachRows x = new LeachRows(1);
        for (int well = 0; well < 4; well++) {
            for (int i = 0; i < 4; i++) {
                x.sample(well, i, i);
            }
            odds("the first and the last part", x, well, 1, 12);
            for (int part : new int[] {-1, -2, 2, 3, Integer.MAX_VALUE, Integer.MIN_VALUE}) {
                DUE.same("odds(" + well + ", " + part + ")", x.odds(well, part), LeachRows.NONE);
            }
        }
        for (int well : new int[] {-1, -4, 4, 5, 8, Integer.MAX_VALUE, Integer.MIN_VALUE}) {
            for (int part = -1; part <= 2; part++) {
                DUE.same("odds(" + well + ", " + part + ")", x.odds(well, part), LeachRows.NONE);
            }
        }
        DUE.same("no samples: odds(0, 2)", new LeachRows(1).odds(0, 2), LeachRows.NONE);
        DUE.same("no samples: odds(4, 0)", new LeachRows(1).odds(4, 0), LeachRows.NONE);
    }

    private static void furthest() {
        for (int well = 0; well < 4; well++) {
            LeachRows rises = new LeachRows(1);
            LeachRows falls = new LeachRows(1);
            for (int count = 1; count <= 8; count++) {
                rises.sample(well, count, count);
                falls.sample(well, count, -count);
                int below = count == 1 ? 1 : ORDERS[count] / 2;
                odds(count + " that rise", rises, well, 1, below);
                odds(count + " that fall", falls, well, 1, below);
            }
        }
    }

    private static void asFarAsItself() {
        // of 24 orders 2 have a trend 6 from 0, 6 one of 4, 10 one of 2, 6 one of 0
        odds("a trend of 4", with(1, 2, 4, 3), 1, 1, 3);
        odds("a trend of 2", with(1, 3, 4, 2), 1, 3, 4);
        // of 6 orders 2 have a trend 3 from 0, 4 one of 1
        odds("a trend of 1", with(1, 3, 2), 1, 1, 1);
        // of 40320 orders 2 have a trend 28 from 0, 14 one of 26, 54 one of 24
        odds("a trend of 26", with(2, 1, 3, 4, 5, 6, 7, 8), 1, 1, 2520);
        odds("a trend of 24", with(2, 1, 4, 3, 5, 6, 7, 8), 1, 1, 576);
    }

    private static void riseAndFallAlike() {
        int[][] orders = {{1, 2}, {1, 2, 3}, {1, 3, 2}, {1, 2, 4, 3}, {2, 1, 3, 5, 4}, {1, 2, 3, 4, 5, 6, 8, 7}};
        for (int[] order : orders) {
            int[] turned = new int[order.length];
            for (int i = 0; i < order.length; i++) {
                turned[i] = order[order.length - 1 - i];
            }
            LeachRows x = with(order);
            LeachRows y = with(turned);
            DUE.same("trend(1)", x.trend(1), -y.trend(1));
            DUE.same("odds(1, 0)", x.odds(1, 0), y.odds(1, 0));
            DUE.same("odds(1, 1)", x.odds(1, 1), y.odds(1, 1));
        }
    }

    private static void nearest() {
        int[][] nearestToZero = {{1}, {2, 1}, {2, 3, 1}, {2, 4, 1, 3}, {2, 5, 1, 4, 3}, {6, 1, 3, 2, 5, 4},
            {7, 5, 1, 2, 3, 4, 6}, {8, 7, 2, 1, 3, 4, 5, 6}};
        for (int[] order : nearestToZero) {
            LeachRows x = with(order);
            DUE.yes(order.length + ": 0, or 1 from it where it can't be 0", Math.abs(x.trend(1)) <= 1);
            odds(order.length + " samples, no order is nearer", x, 1, 1, 1);
        }
    }

    private static void lowestTerms() {
        int[][] orders = {{3, 1, 2, 5, 4, 7, 6, 8}, {2, 1, 5, 3, 4, 6}, {1, 4, 2, 3, 5}, {5, 1, 2, 7, 3}};
        for (int[] order : orders) {
            LeachRows x = with(order);
            int above = x.odds(1, 0);
            int below = x.odds(1, 1);
            DUE.yes("above is 1 .. below", above >= 1 && above <= below);
            DUE.same("below parts n!", ORDERS[order.length] % below, 0);
            for (int d = 2; d <= above; d++) {
                DUE.no(d + " parts " + above + " and " + below, above % d == 0 && below % d == 0);
            }
        }
    }

    private static void behindRefusedSamples() {
        LeachRows x = with(1, 2, 3, 4);
        x.sample(1, 3, 9);
        x.sample(1, 9, 4);
        x.sample(1, 9, -1000001);
        x.sample(-1, 9, 9);
        odds("four samples still", x, 1, 1, 12);
        LeachRows full = with(1, 2, 3, 4, 5, 6, 7, 8);
        full.sample(1, 9, 0);
        odds("eight samples still", full, 1, 1, 20160);
    }

    private static void askedInVain() {
        LeachRows x = Fill.busy();
        for (int well = -1; well < 6; well++) {
            for (int part = -1; part < 4; part++) {
                x.odds(well, part);
            }
        }
        DUE.alike("behind odds", x, Fill.busy());
    }
}
