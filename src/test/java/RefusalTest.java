import java.util.Random;

/**
 * A call that is refused changes nothing, and no more does a question: of two objects one gets all
 * calls, the other only those that were not refused; both must answer alike ever after. No call throws.
 */
public final class RefusalTest {
    private static final Due DUE = new Due("Refused calls");
    // what is asked at the end must stay within an object's 512 calls
    private static final int CALLS = 460;

    public static void main(String[] args) {
        Random random = new Random(2026);
        for (int run = 0; run < 400; run++) {
            twins(random, run);
        }
        DUE.end();
    }

    private static void twins(Random random, int run) {
        int layers = random.nextInt(9) - 1;
        LeachRows all = new LeachRows(layers);
        LeachRows some = new LeachRows(layers);
        for (int call = 0; call < CALLS; call++) {
            Call next = random.nextInt(3) == 0 ? Call.tame(random, call) : Call.wild(random);
            long answer = next.on(all);
            if (!next.isQuestion() && !next.isRefused(answer)) {
                DUE.same("run " + run + ", call " + call + ": " + next, next.on(some), answer);
            }
        }
        sameState(run, all, some);
    }

    private static void sameState(int run, LeachRows all, LeachRows some) {
        for (int i = 0; i < 9; i++) {
            DUE.same("run " + run + ": held(" + i + ")", all.held(i), some.held(i));
            DUE.same("run " + run + ": out(" + i + ")", all.out(i), some.out(i));
            DUE.same("run " + run + ": passed(0, " + i + ")", all.passed(0, i), some.passed(0, i));
            DUE.same("run " + run + ": passed(1, " + i + ")", all.passed(1, i), some.passed(1, i));
        }
        for (int well = 0; well < 4; well++) {
            DUE.same("run " + run + ": trend(" + well + ")", all.trend(well), some.trend(well));
            DUE.same("run " + run + ": odds(" + well + ", 0)", all.odds(well, 0), some.odds(well, 0));
            DUE.same("run " + run + ": odds(" + well + ", 1)", all.odds(well, 1), some.odds(well, 1));
        }
        DUE.same("run " + run + ": balance()", all.balance(), 0);
    }
}
