/** Fills that tests begin with. */
final class Fill {
    /** The day of the last sample of each well of a busy fill that has some. */
    static final int LAST_SAMPLE = 30;
    /** From here on up are values that no well of a busy fill has. */
    static final int FREE_VALUE = 800000;

    private Fill() {
    }

    /** Every part is in use and every setting shows in what it answers; day 5 is the next one. */
    static LeachRows busy(int layers) {
        LeachRows x = new LeachRows(layers);
        for (int k = 0; k < layers; k++) {
            x.layer(k, 120 - 15 * k, 700 + 40 * k);
        }
        x.cover(150);
        x.drain(870);
        x.back(240);
        x.tank(900);
        x.stage(410, 90);
        x.stage(330, 40);
        x.storm(2026L, 100);
        x.rain(160, 50777);
        x.rain(399, 4321);
        x.limit(93, 62);
        for (int i = 0; i < 3; i++) {
            x.sample(0, 10 + 10 * i, new int[] {5, 9, 7}[i]);
            x.sample(3, 10 + 10 * i, new int[] {-4, -9, -12}[i]);
        }
        x.run(5);
        return x;
    }

    static LeachRows busy() {
        return busy(3);
    }

    /** A busy fill whose next day is this one, 5 .. 400. */
    static LeachRows busyAt(int day) {
        LeachRows x = busy();
        int next = 5;
        while (next < day) {
            next = x.run(Math.min(100, day - next));
        }
        return x;
    }

    /** Nothing is told but that it ran up to this day. */
    static LeachRows emptyAt(int day) {
        LeachRows x = new LeachRows(1);
        int next = 0;
        while (next < day) {
            next = x.run(Math.min(100, day - next));
        }
        return x;
    }

    /** Each rain comes whole into the tank, which has room for all; no stages, nothing has run. */
    static LeachRows drained(int... rains) {
        LeachRows x = new LeachRows(1);
        x.drain(1000);
        x.tank(1000000000L);
        for (int day = 0; day < rains.length; day++) {
            x.rain(day, rains[day]);
        }
        return x;
    }

    /** Each rain, 1000000 at most, is the outflow of its day; nothing has run. */
    static LeachRows flowing(int... rains) {
        LeachRows x = drained(rains);
        x.stage(1000000, 0);
        return x;
    }
}
