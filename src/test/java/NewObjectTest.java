/** Promise 1. */
public final class NewObjectTest {
    public static void main(String[] args) {
        startsEmpty();
        addressesHaveSixteenBits();
        sizesAreTheNearest();
        timeoutsAreTheNearest();
        Expect.due("NONE", OutStation.NONE, -1);
        Expect.end();
    }

    private static void startsEmpty() {
        OutStation x = new OutStation(4, 3, 5, 5);
        for (int what = 0; what <= 12; what++) {
            Expect.due("a new object's count(" + what + ")", x.count(what), what == 10 ? 1 : 0);
        }
        for (int k = 0; k < 8; k++) {
            Expect.due("a new object's relay", x.relay(k), OutStation.NONE);
        }
        int[] statics = Master.of(5, 5).askObjects(0xC0, 1, 60, 1, 6);
        int[] binaries = Master.bytes(1, 2, 0, 0, 15, 1, 1, 1, 1, 1, 1, 1, 1, 1, 1, 1, 1, 1, 1, 1, 1);
        int[] analogs = Master.join(Master.bytes(30, 2, 0, 0, 15), new int[48]);
        for (int k = 0; k < 16; k++) {
            analogs[5 + 3 * k] = 1;
        }
        Expect.due("a new object's points", statics, Master.join(binaries, analogs));
    }

    private static void addressesHaveSixteenBits() {
        Master m = new Master(new OutStation(0xFFFF1234, 0x7ABCDE, 3, 3));
        Expect.due("a frame to the lowest 16 bits", m.feed(Master.frameOf(0xC0, 0x1234, 0xBCDE)), 1);
        Expect.due("the answer has both", m.take(), Master.frameOf(0, 0xBCDE, 0x1234));
        Expect.due("bytes turned round", m.feed(Master.frameOf(0xC0, 0x3412, 0xBCDE)), 0);
        Expect.due("another master", m.feed(Master.frameOf(0xC0, 0x1234, 0xBCDF)), 0);
        Expect.due("foreign ones", m.station.count(3), 2);
        Master n = new Master(new OutStation(-1, 65536, 3, 3));
        Expect.due("address -1, master 65536", n.feed(Master.frameOf(0xC0, 0xFFFF, 0)), 1);
        Expect.due("the answer", n.take(), Master.frameOf(0, 0, 0xFFFF));
    }

    private static int mostEvents(int size) {
        OutStation x = new OutStation(4, 3, size, 5);
        x.sort(false, 0, 1);
        for (int i = 0; i < 50; i++) {
            x.binary(0, i % 2 == 0);
        }
        Expect.due("events are lost", x.count(11), 1);
        return x.count(7);
    }

    private static void sizesAreTheNearest() {
        int[][] sizes = {{1, 1}, {2, 2}, {0, 1}, {-1, 1}, {Integer.MIN_VALUE, 1}, {39, 39}, {40, 40}, {41, 40},
            {Integer.MAX_VALUE, 40}};
        for (int[] pair : sizes) {
            Expect.due("events with size " + pair[0], mostEvents(pair[0]), pair[1]);
        }
    }

    private static int statusAfter(int timeout, int ticks) {
        Master m = Master.of(3, timeout);
        m.ask(Master.control(1, 3, Master.relay(1, 3, 0)));
        m.station.tick(ticks);
        return m.statuses(Master.control(2, 4, Master.relay(1, 3, 0)))[0];
    }

    private static void timeoutsAreTheNearest() {
        int[][] timeouts = {{0, 0}, {-5, 0}, {Integer.MIN_VALUE, 0}, {1, 1}, {9999, 9999}, {10000, 10000},
            {10001, 10000}, {Integer.MAX_VALUE, 10000}};
        for (int[] pair : timeouts) {
            Expect.due("just in time with timeout " + pair[0], statusAfter(pair[0], pair[1]), 0);
            Expect.due("late with timeout " + pair[0], statusAfter(pair[0], pair[1] + 1), 1);
        }
    }
}
