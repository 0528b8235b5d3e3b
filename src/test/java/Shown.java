import java.util.Arrays;

/**
 * All that a fill answers: at once, day by day, on all days that are left, and to one more of what it
 * takes. What is told to it but not shown at once shows so at last. Some 280 calls, so that a fill made
 * by fewer than 200 stays within its 512.
 */
final class Shown {
    private static final int SINGLE_DAYS = 6;
    private static final int LAST_DAY = 399;

    private final LeachRows x;
    private long[] answers = new long[512];
    private int count;

    private Shown(LeachRows x) {
        this.x = x;
    }

    static long[] of(LeachRows x) {
        Shown shown = new Shown(x);
        shown.questions();
        shown.daysThatAreLeft();
        shown.questions();
        shown.oneMoreOfEach();
        return Arrays.copyOf(shown.answers, shown.count);
    }

    private long add(long answer) {
        answers[count++] = answer;
        return answer;
    }

    private void questions() {
        waters();
        for (int k : new int[] {0, 1, 2, 5, 11}) {
            add(x.passed(0, k));
            add(x.passed(1, k));
        }
        for (int well = 0; well < 4; well++) {
            add(x.trend(well));
            add(x.odds(well, 0));
            add(x.odds(well, 1));
        }
        add(x.balance());
    }

    private void waters() {
        for (int k = 0; k < 7; k++) {
            add(x.held(k));
        }
        for (int what = 0; what < 9; what++) {
            add(x.out(what));
        }
    }

    private void daysThatAreLeft() {
        long next = 0;
        for (int turn = 0; turn < SINGLE_DAYS && next != LeachRows.NONE; turn++) {
            next = add(x.run(1));
            waters();
        }
        for (int turn = 0; turn < 5 && next != LeachRows.NONE && next <= LAST_DAY; turn++) {
            next = add(x.run((int) Math.min(90, LAST_DAY + 1 - next)));
            waters();
        }
    }

    private void oneMoreOfEach() {
        for (int well = 0; well < 4; well++) {
            for (int turn = 0; turn < 3; turn++) {
                add(x.sample(well, Fill.LAST_SAMPLE + turn, Fill.FREE_VALUE + turn));
            }
            add(x.trend(well));
        }
        add(x.stage(1, 1));
        add(x.stage(1, 1));
    }
}
