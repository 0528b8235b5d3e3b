import java.util.Arrays;
import java.util.function.Consumer;

/** What tests of refused calls lean on: each least change of a busy fill shows. */
public final class ShownTest {
    private static final Due DUE = new Due("What a fill shows");

    public static void main(String[] args) {
        DUE.alike("two busy ones", Fill.busy(), Fill.busy());
        for (int k = 0; k < 3; k++) {
            layerShows(k);
        }
        shows("cover(151)", x -> x.cover(151));
        shows("drain(871)", x -> x.drain(871));
        shows("back(241)", x -> x.back(241));
        shows("tank(901)", x -> x.tank(901));
        shows("stage(1000000, 0)", x -> x.stage(1000000, 0));
        shows("storm(1, 1)", x -> x.storm(1, 1));
        shows("run(1)", x -> x.run(1));
        shows("limit(94, 62)", x -> x.limit(94, 62));
        shows("limit(93, 63)", x -> x.limit(93, 63));
        shows("limit(-1, 62)", x -> x.limit(-1, 62));
        shows("limit(93, -1)", x -> x.limit(93, -1));
        for (int day = 5; day < 400; day++) {
            rainShows(day);
        }
        for (int well = 0; well < 4; well++) {
            sampleShows(well);
        }
        DUE.end();
    }

    private static void shows(String call, Consumer<LeachRows> does) {
        LeachRows x = Fill.busy();
        does.accept(x);
        DUE.no(call + " is not seen", Arrays.equals(Shown.of(x), Shown.of(Fill.busy())));
    }

    private static void layerShows(int k) {
        shows("layer(" + k + "), one more held", x -> x.layer(k, 121 - 15 * k, 700 + 40 * k));
        shows("layer(" + k + "), one part less passed", x -> x.layer(k, 120 - 15 * k, 699 + 40 * k));
    }

    private static void rainShows(int day) {
        shows("rain(" + day + ", 1024)", x -> x.rain(day, 1024));
    }

    private static void sampleShows(int well) {
        shows("sample(" + well + ", 31, 0)", x -> x.sample(well, 31, 0));
    }
}
