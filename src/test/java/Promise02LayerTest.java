public final class Promise02LayerTest {
    private static final Due DUE = new Due("Promise 2: layer");

    public static void main(String[] args) {
        edges();
        wrongInputs();
        passesPartsOfWhatIsAbove();
        holdsJustWhatItHas();
        layersPassDownTheSameDay();
        laterCallsCountFromTheNextDayOn();
        largeAmounts();
        DUE.end();
    }

    private static void edges() {
        LeachRows x = new LeachRows(3);
        DUE.yes("layer(0, 0, 0)", x.layer(0, 0, 0));
        DUE.yes("layer(2, 1000000, 1000)", x.layer(2, 1000000, 1000));
        DUE.no("layer(3, 0, 0)", x.layer(3, 0, 0));
        DUE.no("layer(-1, 0, 0)", x.layer(-1, 0, 0));
        DUE.no("layer(MAX, 0, 0)", x.layer(Integer.MAX_VALUE, 0, 0));
        DUE.no("layer(MIN, 0, 0)", x.layer(Integer.MIN_VALUE, 0, 0));
    }

    private static void wrongInputs() {
        LeachRows x = new LeachRows(1);
        x.layer(0, 100, 500);
        DUE.no("layer(0, 1000001, 0)", x.layer(0, 1000001, 0));
        DUE.no("layer(0, -1, 0)", x.layer(0, -1, 0));
        DUE.no("layer(0, 5, 1001)", x.layer(0, 5, 1001));
        DUE.no("layer(0, 5, -1)", x.layer(0, 5, -1));
        DUE.no("layer(1, 5, 5)", x.layer(1, 5, 5));
        x.rain(0, 300);
        x.run(1);
        DUE.same("held(0) by 100 and 500 still", x.held(0), 200);
    }

    private static void passesPartsOfWhatIsAbove() {
        LeachRows x = new LeachRows(1);
        x.layer(0, 10, 333);
        x.rain(0, 29);
        x.run(1);
        DUE.same("333 parts of 19 are 6", x.out(2), 6);
        DUE.same("held(0)", x.held(0), 23);
        x.run(1);
        DUE.same("333 parts of 13 are 4 more", x.out(2), 10);
        x.layer(0, 10, 0);
        x.run(1);
        DUE.same("passes 0", x.out(2), 10);
        x.layer(0, 10, 1000);
        x.run(1);
        DUE.same("passes 1000", x.held(0), 10);
    }

    private static void holdsJustWhatItHas() {
        LeachRows x = new LeachRows(1);
        x.layer(0, 100, 1000);
        x.rain(0, 99);
        x.run(1);
        DUE.same("held(0) below", x.held(0), 99);
        x.rain(1, 1);
        x.run(1);
        DUE.same("held(0) just so", x.held(0), 100);
        x.rain(2, 1);
        x.run(1);
        DUE.same("held(0) above", x.held(0), 100);
        DUE.same("seeped", x.out(2), 1);
        x.layer(0, 300, 1000);
        x.run(1);
        DUE.same("seeped, holding more than there is", x.out(2), 1);
    }

    private static void layersPassDownTheSameDay() {
        LeachRows x = new LeachRows(3);
        x.layer(0, 10, 500);
        x.layer(1, 20, 250);
        x.layer(2, 1, 100);
        x.rain(0, 1010);
        x.run(1);
        DUE.same("held(0)", x.held(0), 510);
        DUE.same("held(1)", x.held(1), 380);
        DUE.same("held(2)", x.held(2), 109);
        DUE.same("seeped", x.out(2), 11);
    }

    private static void laterCallsCountFromTheNextDayOn() {
        LeachRows x = new LeachRows(2);
        x.layer(0, 1000, 1000);
        x.rain(0, 600);
        x.run(1);
        x.layer(0, 100, 1000);
        DUE.same("held(0) at once", x.held(0), 600);
        x.layer(1, 1000, 1000);
        x.run(1);
        DUE.same("held(0) a day later", x.held(0), 100);
        DUE.same("held(1) a day later", x.held(1), 500);
    }

    private static void largeAmounts() {
        LeachRows x = new LeachRows(1);
        x.layer(0, 1000000, 0);
        for (int day = 0; day < 50; day++) {
            x.rain(day, 1000000);
        }
        x.run(49);
        x.layer(0, 1000000, 999);
        x.run(1);
        DUE.same("999 parts of 49000000", x.out(2), 48951000);
        DUE.same("held(0)", x.held(0), 1049000);
    }
}
