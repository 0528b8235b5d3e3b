public final class Promise11HeldTest {
    private static final Due DUE = new Due("Promise 11: held");

    public static void main(String[] args) {
        LeachRows x = new LeachRows(6);
        for (int k = 0; k < 6; k++) {
            x.layer(k, 10 + k, 1000);
        }
        x.rain(0, 62);
        DUE.same("held(0) before the day", x.held(0), 0);
        x.run(1);
        for (int k = 0; k < 4; k++) {
            DUE.same("held(" + k + ")", x.held(k), 10 + k);
        }
        DUE.same("held(4)", x.held(4), 14);
        DUE.same("held(5)", x.held(5), 2);
        for (int layer : new int[] {6, 7, -1, Integer.MAX_VALUE, Integer.MIN_VALUE}) {
            DUE.same("held(" + layer + ")", x.held(layer), LeachRows.NONE);
        }
        moreThanAnIntHoldsIsNeverCut();
        DUE.end();
    }

    private static void moreThanAnIntHoldsIsNeverCut() {
        LeachRows x = new LeachRows(1);
        x.layer(0, 1000000, 0);
        for (int hundred = 0; hundred < 4; hundred++) {
            for (int day = 0; day < 100; day++) {
                x.rain(hundred * 100 + day, 1000000);
            }
            x.run(100);
        }
        DUE.same("held(0)", x.held(0), 400000000);
        DUE.same("balance()", x.balance(), 0);
    }
}
