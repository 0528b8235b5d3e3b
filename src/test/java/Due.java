/** Compares answers with those that are due, and ends a test. */
final class Due {
    private final String test;
    private int compared;
    private int wrong;

    Due(String test) {
        this.test = test;
    }

    void same(String call, long got, long want) {
        compared++;
        if (got != want) {
            wrong++;
            System.out.println(test + ": " + call + " answered " + got + ", due is " + want);
        }
    }

    void same(String call, boolean got, boolean want) {
        same(call, got ? 1 : 0, want ? 1 : 0);
    }

    void yes(String call, boolean got) {
        same(call, got, true);
    }

    void no(String call, boolean got) {
        same(call, got, false);
    }

    /** All of out(0) .. out(8), in this order. */
    void outs(String when, LeachRows x, long... want) {
        for (int what = 0; what < want.length; what++) {
            same(when + ": out(" + what + ")", x.out(what), want[what]);
        }
        same(when + ": how many outs are due", want.length, 9);
        same(when + ": balance()", x.balance(), 0);
    }

    void end() {
        System.out.println(test + ": " + compared + " answers, " + wrong + " not as due");
        if (wrong != 0 || compared == 0) {
            System.exit(1);
        }
    }
}
