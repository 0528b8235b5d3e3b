import java.util.function.Predicate;
import java.util.function.Supplier;
import java.util.function.ToIntFunction;

/** Compares answers with those that are due, and ends a test. */
final class Due {
    private final String test;
    private String about = "";
    private int compared;
    private int wrong;

    Due(String test) {
        this.test = test;
    }

    /** The test of one sentence of the document; what is not as due is told with its words. */
    void sentence(String words, Runnable its) {
        int before = compared;
        about = " '" + words + "'";
        its.run();
        same("how often the sentence was looked at, 0 times", compared == before, false);
        about = "";
    }

    void same(String call, long got, long want) {
        compared++;
        if (got != want) {
            wrong++;
            System.out.println(test + about + ": " + call + " answered " + got + ", due is " + want);
        }
    }

    void same(String call, boolean got, boolean want) {
        same(call, got ? 1 : 0, want ? 1 : 0);
    }

    void yes(String call, boolean got) {
        same(call, got, true);
    }

    void no(String call, boolean got) {
        same(call, got, false);
    }

    /** A call that is refused by false: then the fill is as one that never got it. */
    void saysNo(String call, Supplier<LeachRows> made, Predicate<LeachRows> does) {
        LeachRows x = made.get();
        no(call, does.test(x));
        alike("behind " + call, x, made.get());
    }

    /** A call that is refused by NONE: then the fill is as one that never got it. */
    void saysNone(String call, Supplier<LeachRows> made, ToIntFunction<LeachRows> does) {
        LeachRows x = made.get();
        same(call, does.applyAsInt(x), LeachRows.NONE);
        alike("behind " + call, x, made.get());
    }

    /** Two fills that answer alike now and on all days to come; both are used up by it. */
    void alike(String when, LeachRows x, LeachRows y) {
        long[] got = Shown.of(x);
        long[] want = Shown.of(y);
        same(when + ": how many answers", got.length, want.length);
        // one difference brings hundreds with it: the first one is enough
        boolean alike = true;
        for (int i = 0; i < got.length && i < want.length && alike; i++) {
            same(when + ": answer " + i + " of all that it shows", got[i], want[i]);
            alike = got[i] == want[i];
        }
    }

    /** All of out(0) .. out(8), in this order. */
    void outs(String when, LeachRows x, long... want) {
        for (int what = 0; what < want.length; what++) {
            same(when + ": out(" + what + ")", x.out(what), want[what]);
        }
        same(when + ": how many outs are due", want.length, 9);
        same(when + ": balance()", x.balance(), 0);
    }

    void end() {
        System.out.println(test + ": " + compared + " answers, " + wrong + " not as due");
        if (wrong != 0 || compared == 0) {
            System.exit(1);
        }
    }
}
