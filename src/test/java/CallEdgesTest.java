import java.util.Arrays;

/** Promises 1 to 3, 8 to 10, 12 and 13, their edges, and calls that throw: each sentence has a test. */
public final class CallEdgesTest {
    private static final int[] STATUS = Master.frame(0xC9);

    public static void main(String[] args) {
        Expect.holds("this address (its lowest 16 bits)", CallEdgesTest::addressesHaveSixteenBits);
        Expect.holds("so many events a class (1 .. 40, the nearest)", CallEdgesTest::sizesAreTheNearest);
        Expect.holds("so many ticks of timeout (0 .. 10000, the nearest)", CallEdgesTest::timeoutsAreTheNearest);
        Expect.holds("the nearest); restarted.", CallEdgesTest::newOnesAreRestartedAndEmpty);
        Expect.holds("The first n of 20 bytes come, the highest of each number first", CallEdgesTest::onlyTheFirstBytesCome);
        Expect.holds("how many frames were good", CallEdgesTest::onlyGoodFramesAreTold);
        Expect.holds("IllegalArgumentException: n is not 1 .. 20.", CallEdgesTest::oneToTwentyBytesCome);
        Expect.holds("they are below 0, or there would be more than 1000000000", CallEdgesTest::ticksHaveTheirEnd);
        Expect.holds("Byte i of what was sent since the latest take().", CallEdgesTest::bytesSentHaveTheirEnds);
        Expect.holds("What was sent is gone: how many bytes.", CallEdgesTest::takingNothingIsFine);
        Expect.holds("What does not fit into 4000 bytes whole is not sent.", CallEdgesTest::linkAnswersFitOrNot);
        Expect.holds("What does not fit into 4000 bytes whole is not sent.", CallEdgesTest::answersFitOrNot);
        Expect.holds("What does not fit into 4000 bytes whole is not sent.", CallEdgesTest::smallerOnesMayStillFit);
        Expect.holds("The code with which a relay acted ... IndexOutOfBoundsException.", CallEdgesTest::noSuchRelay);
        Expect.holds("each the lowest eight bits of value and its place from 0 added", CallEdgesTest::checkedBytesGoRound);
        Expect.holds("IllegalArgumentException: n is not 0 .. 300.", CallEdgesTest::threeHundredBytesAreChecked);
        Expect.holds("IndexOutOfBoundsException: there is no such what.", CallEdgesTest::thirteenCounts);
        Expect.holds("4 requests (repeated ones, too)", CallEdgesTest::repeatedRequestsCount);
        Expect.holds("An object is used for at most 512 calls", CallEdgesTest::fullObjectsGoOn);
        Expect.holds("A call that throws changes nothing.", CallEdgesTest::callsThatThrowChangeNothing);
        Expect.end();
    }

    private static void addressesHaveSixteenBits() {
        int[] numbers = {0, 1, 0x7FFF, 0x8000, 0xFFFF, 0x10000, 0x10001, -1, -65536, Integer.MIN_VALUE, Integer.MAX_VALUE};
        for (int address : numbers) {
            for (int master : numbers) {
                Master m = new Master(new OutStation(address, master, 3, 3));
                int to = address & 0xFFFF;
                int from = master & 0xFFFF;
                Expect.due("good", m.feed(Master.frameOf(0xC9, to, from)), 1);
                Expect.due("its answer", m.take(), Master.frameOf(11, from, to));
                Expect.due("foreign", m.feed(Master.frameOf(0xC9, to ^ 1, from)), 0);
                Expect.due("foreign", m.feed(Master.frameOf(0xC9, to, from ^ 0x8000)), 0);
            }
        }
    }

    private static void sizesAreTheNearest() {
        int[][] sizes = {{Integer.MIN_VALUE, 1}, {-1, 1}, {0, 1}, {1, 1}, {2, 2}, {39, 39}, {40, 40}, {41, 40},
            {Integer.MAX_VALUE, 40}};
        for (int[] pair : sizes) {
            for (int c = 1; c <= 3; c++) {
                OutStation x = new OutStation(4, 3, pair[0], 5);
                x.sort(true, 0, c);
                for (int i = 1; i <= 45; i++) {
                    x.analog(0, i);
                    Expect.due("events with size " + pair[0], x.count(6 + c), Math.min(i, pair[1]));
                    Expect.due("whether LOST", x.count(11), i > pair[1] ? 1 : 0);
                }
            }
        }
    }

    private static int statusAfter(int timeout, int ticks) {
        Master m = Master.of(3, timeout);
        m.send(Master.control(1, 3, Master.relay(1, 3, 0)));
        m.station.tick(ticks);
        return m.statuses(Master.control(2, 4, Master.relay(1, 3, 0)))[0];
    }

    private static void timeoutsAreTheNearest() {
        int[][] timeouts = {{Integer.MIN_VALUE, 0}, {-1, 0}, {0, 0}, {1, 1}, {9999, 9999}, {10000, 10000}, {10001, 10000},
            {Integer.MAX_VALUE, 10000}};
        for (int[] pair : timeouts) {
            Expect.due("in time with timeout " + pair[0], statusAfter(pair[0], pair[1]), 0);
            Expect.due("late with timeout " + pair[0], statusAfter(pair[0], pair[1] + 1), 1);
        }
    }

    private static void newOnesAreRestartedAndEmpty() {
        OutStation x = new OutStation(0, 0, 0, 0);
        for (int what = 0; what <= 12; what++) {
            Expect.due("count(" + what + ")", x.count(what), what == 10 ? 1 : 0);
        }
        Expect.due("nothing to take", x.take(), 0);
        for (int k = 0; k < 8; k++) {
            Expect.due("relay(" + k + ")", x.relay(k), OutStation.NONE);
        }
        Expect.due("NONE", OutStation.NONE, -1);
    }

    private static void onlyTheFirstBytesCome() {
        // The tenth byte behind a start shows that its head is wrong; what begins behind it waits.
        int[] waiting = {1, 2, 3, 4, 5, 6, 7, 8, 9, 2, 3, 4, 5, 6, 7, 8, 9, 8, 9, 8};
        for (int n = 1; n <= 20; n++) {
            OutStation x = new OutStation(4, 3, 3, 3);
            x.feed(0x0564FF01, 0x02030405, 0x05640564, 0x05640564, 0x05640564, n);
            Expect.due(n + " bytes", x.count(6), waiting[n - 1]);
        }
        OutStation x = new OutStation(4, 3, 3, 3);
        Expect.due("0 good yet", x.feed(0x056405C9, 0x04000300, -1, -1, -1, 8), 0);
        Expect.due("the highest two of the next", x.feed(STATUS[8] << 24 | STATUS[9] << 16 | 0x7777, -1, -1, -1, -1, 2), 1);
        Expect.due("the others did not come", x.count(6), 0);
        Expect.due("20 bytes", x.feed(0x056405C9, 0x04000300, STATUS[8] << 24 | STATUS[9] << 16 | 0x0564,
                0x05C90400, 0x03000000 | STATUS[8] << 8 | STATUS[9], 20), 2);
    }

    private static void onlyGoodFramesAreTold() {
        Master m = Master.of(3, 3);
        int[] bad = Master.frame(0xC9, 1);
        bad[10] ^= 1;
        Expect.due("none", m.feed(1, 2, 3), 0);
        Expect.due("one", m.feed(STATUS), 1);
        Expect.due("two at once", m.feed(Master.join(STATUS, STATUS)), 2);
        Expect.due("foreign and good", m.feed(Master.join(Master.frame(0x09), STATUS)), 1);
        Expect.due("foreign twice", m.feed(Master.join(Master.frame(0x09), Master.frame(0x09))), 0);
        Expect.due("bad", m.feed(bad), 0);
        Expect.due("good ones in all", m.station.count(1), 4);
    }

    private static void oneToTwentyBytesCome() {
        OutStation x = new OutStation(4, 3, 3, 3);
        int[] wrong = {0, -1, 21, 22, Integer.MIN_VALUE, Integer.MAX_VALUE};
        for (int n : wrong) {
            Expect.dueNoNumber("feed of " + n, () -> x.feed(0x05640564, 0x05640564, 0x05640564, 0, 0, n));
            Expect.due("nothing came", x.count(6), 0);
        }
        x.feed(0x05640564, 0, 0, 0, 0, 1);
        Expect.due("one came", x.count(6), 1);
        OutStation y = new OutStation(4, 3, 3, 3);
        Expect.due("twenty", y.feed(0x056405C9, 0x04000300, STATUS[8] << 24 | STATUS[9] << 16 | 0x0564, 0, 0, 20), 1);
        Expect.due("ten of them wait no more: a wrong head, and its last byte", y.count(6), 1);
    }

    private static void ticksHaveTheirEnd() {
        OutStation x = new OutStation(4, 3, 3, 3);
        x.tick(0);
        Expect.due("no ticks", x.count(12), 0);
        int[] wrong = {-1, Integer.MIN_VALUE, 1000000001, Integer.MAX_VALUE};
        for (int n : wrong) {
            Expect.dueNoNumber("tick(" + n + ")", () -> x.tick(n));
            Expect.due("no ticks yet", x.count(12), 0);
        }
        OutStation y = new OutStation(4, 3, 3, 3);
        y.tick(1000000000);
        Expect.due("the most at once", y.count(12), 1000000000);
        y.tick(0);
        Expect.dueNoNumber("one more", () -> y.tick(1));
        Expect.dueNoNumber("one less than none", () -> y.tick(-1));
        x.tick(1);
        Expect.dueNoNumber("one too many", () -> x.tick(1000000000));
        x.tick(999999999);
        Expect.due("the most in two", x.count(12), 1000000000);
        Expect.dueNoNumber("far too many", () -> x.tick(Integer.MAX_VALUE));
        Expect.due("as it was", x.count(12), 1000000000);
    }

    private static void dueNoByte(OutStation x, int... places) {
        for (int i : places) {
            Expect.dueNoPlace("sent(" + i + ")", () -> x.sent(i));
        }
    }

    private static void bytesSentHaveTheirEnds() {
        Master m = Master.of(3, 3);
        dueNoByte(m.station, -1, 0, 1, Integer.MIN_VALUE, Integer.MAX_VALUE);
        m.feed(STATUS);
        Expect.due("the first byte", m.station.sent(0), 0x05);
        Expect.due("the last byte", m.station.sent(9), Master.reply(11)[9]);
        dueNoByte(m.station, -1, 10, 3999, 4000, Integer.MIN_VALUE, Integer.MAX_VALUE);
        m.station.take();
        dueNoByte(m.station, -1, 0, 9);
        m.feed(Master.frame(0xC1));
        Expect.due("from the latest take() on", m.station.sent(3), 15);
        dueNoByte(m.station, 10);
    }

    private static void takingNothingIsFine() {
        Master m = Master.of(3, 3);
        Expect.due("nothing was sent", m.station.take(), 0);
        m.feed(Master.join(STATUS, STATUS));
        Expect.due("two answers", m.station.take(), 20);
        Expect.due("gone", m.station.count(0), 0);
        Expect.due("nothing again", m.station.take(), 0);
    }

    /** 40 answers of 99 bytes (3960 in all), one with so many events, and so many of the link's. */
    private static Master withSent(int events, int links) {
        Master m = Master.of(40, 3);
        m.station.sort(false, 0, 1);
        for (int i = 1; i <= events; i++) {
            m.station.binary(0, i % 2 == 1);
        }
        for (int i = 0; i < 40; i++) {
            m.send(0xC0 | i & 15, 1, 60, 1, 6);
        }
        if (events > 0) {
            m.send(0xC9, 1, 60, 2, 6);
        }
        for (int i = 0; i < links; i++) {
            m.feed(STATUS);
        }
        return m;
    }

    private static void dueSent(String what, Master m, int want) {
        Expect.due(what, m.station.count(0), want);
    }

    private static void linkAnswersFitOrNot() {
        Master m = withSent(0, 3);
        dueSent("ten bytes are free", m, 3990);
        m.feed(STATUS);
        dueSent("just room", m, 4000);
        Expect.due("the last byte", m.station.sent(3999), Master.reply(11)[9]);
        dueNoByte(m.station, 4000);
        Expect.due("good all the same", m.feed(STATUS), 1);
        dueSent("no room", m, 4000);
        Expect.due("all of it goes", m.station.take(), 4000);
        m.feed(STATUS);
        Expect.due("there is room again", m.take(), Master.reply(11));
        // Four events in an answer are 1 and 4 and 4 and 8 bytes, 31 in all.
        m = withSent(4, 0);
        dueSent("nine bytes are free", m, 3991);
        m.feed(STATUS);
        dueSent("one byte too few", m, 3991);
    }

    private static void answersFitOrNot() {
        // One event in an answer is 1 and 4 and 4 and 2 bytes, 23 in all.
        Master m = withSent(1, 0);
        dueSent("17 bytes are free", m, 3983);
        m.send(0xCA, 99);
        dueSent("just room", m, 4000);
        m = Master.of(3, 3);
        for (int i = 0; i < 39; i++) {
            m.send(0xC0 | i & 15, 1, 60, 1, 6);
        }
        m.send(0xC9, 1, 30, 2, 6);
        m.send(0xCA, 99);
        m.feed(Master.join(STATUS, STATUS, STATUS));
        dueSent("16 bytes are free", m, 3984);
        m.send(0xCB, 99);
        dueSent("one byte too few", m, 3984);
        m = withSent(0, 0);
        m.send(0xCA, 1, 1, 2, 6);
        dueSent("40 bytes, just room", m, 4000);
    }

    private static void smallerOnesMayStillFit() {
        Master m = withSent(0, 0);
        m.send(0xCA, 1, 60, 1, 6);
        dueSent("99 bytes have no room", m, 3960);
        m.send(0xCB, 99);
        dueSent("17 have", m, 3977);
        Expect.due("whole", m.station.sent(3960 + 2), 10);
        m.feed(STATUS);
        m.feed(STATUS);
        m.feed(STATUS);
        dueSent("two link answers", m, 3997);
    }

    private static void noSuchRelay() {
        OutStation x = new OutStation(4, 3, 3, 3);
        int[] wrong = {-1, 8, 9, 255, Integer.MIN_VALUE, Integer.MAX_VALUE};
        for (int k : wrong) {
            Expect.dueNoPlace("relay(" + k + ")", () -> x.relay(k));
        }
        Expect.due("the first one", x.relay(0), OutStation.NONE);
        Expect.due("the last one", x.relay(7), OutStation.NONE);
    }

    private static void checkedBytesGoRound() {
        OutStation x = new OutStation(4, 3, 3, 3);
        Expect.due("255, then 0", x.check(255, 2), Master.check(255, 0));
        Expect.due("only eight bits of 256", x.check(256, 3), x.check(0, 3));
        Expect.due("-1 is 255", x.check(-1, 3), Master.check(255, 0, 1));
        Expect.due("the highest number", x.check(Integer.MAX_VALUE, 3), Master.check(255, 0, 1));
        Expect.due("the lowest number", x.check(Integer.MIN_VALUE, 2), Master.check(0, 1));
        Expect.due("once round", x.check(7, 300), Master.check(Master.ramp(7, 300)));
    }

    private static void threeHundredBytesAreChecked() {
        OutStation x = new OutStation(4, 3, 3, 3);
        int[] wrong = {-1, 301, Integer.MIN_VALUE, Integer.MAX_VALUE};
        for (int n : wrong) {
            Expect.dueNoNumber("check of " + n, () -> x.check(5, n));
        }
        Expect.due("none", x.check(5, 0), 0xFFFF);
        Expect.due("the most", x.check(5, 300), Master.check(Master.ramp(5, 300)));
    }

    private static void thirteenCounts() {
        OutStation x = new OutStation(4, 3, 3, 3);
        int[] wrong = {-1, 13, 14, Integer.MIN_VALUE, Integer.MAX_VALUE};
        for (int what : wrong) {
            Expect.dueNoPlace("count(" + what + ")", () -> x.count(what));
        }
        Expect.due("the first", x.count(0), 0);
        Expect.due("the last", x.count(12), 0);
    }

    private static void repeatedRequestsCount() {
        Master m = Master.of(3, 3);
        for (int i = 1; i <= 3; i++) {
            m.send(0xC1, 1);
            m.dueRequests("the same again", i);
        }
        m.send(0xC1, 0);
        m.send(0xC1, 0);
        m.dueRequests("confirms", 5);
        m.send(0xC1);
        m.send(0x01, 1);
        m.dueRequests("no requests", 5);
    }

    private static void fullObjectsGoOn() {
        Master m = Master.of(1, 3);
        m.station.sort(true, 0, 1);
        for (int i = 1; i <= 254; i++) {
            Expect.due("two frames more", m.feed(Master.join(STATUS, STATUS)), 2);
            Expect.due("an event more", m.station.analog(0, i), true);
        }
        Expect.due("good frames in 509 calls", m.station.count(1), 508);
        Expect.due("no more than 4000 bytes", m.station.count(0), 4000);
        Expect.due("the 512th call: the newest event", m.station.event(1, 0, 2), 254);
    }

    private static void callThatThrows(OutStation x) {
        int[] outside = {Integer.MIN_VALUE, -1, 16, Integer.MAX_VALUE};
        for (int k : outside) {
            Expect.dueNoPlace("binary", () -> x.binary(k, true));
            Expect.dueNoPlace("analog", () -> x.analog(k, 5000));
            Expect.dueNoPlace("sort", () -> x.sort(false, k, 3));
            Expect.dueNoPlace("sort", () -> x.sort(true, 0, k));
            Expect.dueNoPlace("band", () -> x.band(k, 7));
            Expect.dueNoPlace("relay", () -> x.relay(k));
            Expect.dueNoPlace("event", () -> x.event(k, 0, 0));
            Expect.dueNoPlace("event", () -> x.event(1, k, 0));
            Expect.dueNoPlace("event", () -> x.event(1, 0, k));
            Expect.dueNoPlace("count", () -> x.count(k));
        }
        int[] noNumbers = {Integer.MIN_VALUE, -32769, 65536, 1000000001, Integer.MAX_VALUE};
        for (int n : noNumbers) {
            Expect.dueNoNumber("feed", () -> x.feed(0x05640564, 1, 2, 3, 4, n));
            Expect.dueNoNumber("analog", () -> x.analog(0, n));
            Expect.dueNoNumber("band", () -> x.band(0, n));
            Expect.dueNoNumber("check", () -> x.check(0, n));
            Expect.dueNoPlace("sent", () -> x.sent(n));
        }
        Expect.dueNoNumber("tick", () -> x.tick(-1));
        Expect.dueNoNumber("tick", () -> x.tick(Integer.MAX_VALUE));
    }

    /** All that can be seen of a run in whose midst some calls throw, if they are to. */
    private static int[] answersOf(boolean withThrows) {
        Master m = Master.of(2, 10);
        OutStation x = m.station;
        x.sort(false, 0, 1);
        x.sort(true, 0, 1);
        x.band(0, 20);
        x.binary(0, true);
        x.analog(0, 21);
        x.analog(0, 42);
        x.tick(5);
        m.feed(Master.frame(0xC0));
        m.send(0xC1, 1, 60, 2, 6);
        m.feed(Arrays.copyOf(STATUS, 6));
        if (withThrows) {
            callThatThrows(x);
        }
        m.feed(Arrays.copyOfRange(STATUS, 6, 10));
        m.send(0xC1, 0);
        m.send(Master.control(2, 3, Master.relay(3, 4, 0)));
        m.segment(0x40, Master.control(3, 4, Master.relay(3, 4, 0)));
        x.tick(10);
        if (withThrows) {
            callThatThrows(x);
        }
        m.segment(0x81);
        x.analog(0, 62);
        x.binary(0, false);
        int[] counts = new int[24];
        for (int what = 0; what <= 12; what++) {
            counts[what] = x.count(what);
        }
        for (int k = 0; k < 8; k++) {
            counts[13 + k] = x.relay(k);
        }
        for (int what = 0; what < 3; what++) {
            counts[21 + what] = x.event(1, 0, what);
        }
        return Master.join(counts, m.take());
    }

    private static void callsThatThrowChangeNothing() {
        int[] want = answersOf(false);
        Expect.due("one relay acted", want[5], 1);
        Expect.due("every answer is the same", answersOf(true), want);
    }
}
