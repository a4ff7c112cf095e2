/** Promise 13. */
public final class CountTest {
    public static void main(String[] args) {
        everythingIsCounted();
        callsThatThrowCountNothing();
        OutStation x = new OutStation(4, 3, 3, 3);
        int[] wrong = {-1, 13, Integer.MIN_VALUE, Integer.MAX_VALUE};
        for (int what : wrong) {
            Expect.dueNoPlace("count(" + what + ")", () -> x.count(what));
        }
        Expect.end();
    }

    private static void dueCounts(OutStation x, int... want) {
        for (int what = 0; what < want.length; what++) {
            Expect.due("count(" + what + ")", x.count(what), want[what]);
        }
    }

    private static void everythingIsCounted() {
        Master m = Master.of(2, 3);
        OutStation x = m.station;
        x.tick(9);
        x.sort(false, 0, 1);
        x.sort(true, 0, 3);
        x.sort(false, 1, 2);
        x.binary(0, true);
        x.binary(0, false);
        x.binary(0, true);
        x.binary(1, true);
        dueCounts(x, 0, 0, 0, 0, 0, 0, 0, 2, 1, 0, 1, 1, 9);
        x.analog(0, 1);
        x.analog(0, 2);
        m.feed(Master.frame(0xC9));
        m.feed(Master.frame(0x09));
        int[] bad = Master.frame(0xC9, 1);
        bad[11] ^= 1;
        m.feed(bad);
        m.feed(0x05, 0x64, 0x05);
        dueCounts(x, 10, 1, 1, 1, 0, 0, 3, 2, 1, 2, 1, 1, 9);
        // Ten bytes behind these three show that they begin nothing.
        m.send(Master.control(1, 5, Master.relay(0, 3, 0), Master.relay(1, 4, 0)));
        m.send(Master.control(1, 5, Master.relay(0, 3, 0), Master.relay(1, 4, 0)));
        dueCounts(x, 10 + 2 * 49, 3, 1, 1, 2, 2, 0, 2, 1, 2, 1, 1, 9);
        x.take();
        m.send(0xC1, 2, 80, 1, 0, 7, 7, 0);
        m.send(0xC2, 1, 60, 4, 6);
        m.send(0xC2, 0);
        dueCounts(x, 17 + 31, 6, 1, 1, 5, 2, 0, 2, 1, 0, 0, 0, 9);
    }

    private static void callsThatThrowCountNothing() {
        OutStation x = new OutStation(4, 3, 2, 3);
        Expect.dueNoNumber("feed", () -> x.feed(0x056405C9, 0x04000300, 0, 0, 0, 21));
        Expect.dueNoNumber("tick", () -> x.tick(-1));
        Expect.dueNoPlace("binary", () -> x.binary(16, true));
        Expect.dueNoPlace("sent", () -> x.sent(0));
        dueCounts(x, 0, 0, 0, 0, 0, 0, 0, 0, 0, 0, 1, 0, 0);
    }
}
