/** The edges that promise 6 names. */
public final class Edge06TankTest {
    private static final Due DUE = new Due("Edges of promise 6: tank");
    private static final long MOST = 1000000000L;

    public static void main(String[] args) {
        DUE.sentence("The tank's room, 0 .. 1000000000", Edge06TankTest::rooms);
        DUE.sentence("A DAY goes like this: .. what is above OVERFLOWED", Edge06TankTest::lessRoomThanThereIs);
        DUE.sentence("Answers true, or false", Edge06TankTest::refusedOnes);
        DUE.sentence("0 .. 1000000000, of a long", Edge06TankTest::longsThatAreSmallAsInts);
        DUE.end();
    }

    private static void rooms() {
        for (long room : new long[] {0, 1, 2, 999999, 1000000, 1000001, MOST - 1, MOST}) {
            LeachRows x = Fill.drained(1000000, 1000000);
            x.tank(7);
            DUE.yes("tank(" + room + ")", x.tank(room));
            x.run(2);
            DUE.same("room " + room + ": out(7)", x.out(7), Math.min(room, 2000000));
            DUE.same("room " + room + ": out(4)", x.out(4), Math.max(0, 2000000 - room));
        }
    }

    private static void lessRoomThanThereIs() {
        LeachRows x = Fill.drained(100);
        x.run(1);
        DUE.yes("tank(99)", x.tank(99));
        DUE.outs("before a day runs", x, 100, 0, 100, 0, 0, 0, 0, 100, 0);
        x.run(1);
        DUE.outs("a day later", x, 100, 0, 100, 0, 1, 0, 0, 99, 0);
        DUE.yes("tank(0)", x.tank(0));
        DUE.yes("tank(99), before a day ran", x.tank(99));
        x.run(1);
        DUE.outs("the room was never 0 on a day", x, 100, 0, 100, 0, 1, 0, 0, 99, 0);
        DUE.yes("tank(0)", x.tank(0));
        x.run(1);
        DUE.outs("no room", x, 100, 0, 100, 0, 100, 0, 0, 0, 0);
    }

    private static void refusedOnes() {
        for (long wrong : new long[] {-1, -2, -MOST, MOST + 1, MOST + 2, Long.MAX_VALUE, Long.MIN_VALUE}) {
            DUE.saysNo("tank(" + wrong + ")", Fill::busy, x -> x.tank(wrong));
        }
    }

    private static void longsThatAreSmallAsInts() {
        for (long wrong : new long[] {1L << 32, (1L << 32) + 5, -(1L << 32), (1L << 40) + MOST, 1L << 62}) {
            DUE.saysNo("tank(" + wrong + ")", Fill::busy, x -> x.tank(wrong));
        }
    }
}
