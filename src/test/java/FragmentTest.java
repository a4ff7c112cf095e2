/** Promise 2: segments put together, and which fragments are requests. */
public final class FragmentTest {
    public static void main(String[] args) {
        oneSegmentIsEnough();
        segmentsGoOn();
        gapsEndAFragment();
        nothingGoesOnBehindTheLast();
        fragmentsHaveALimit();
        emptyDataEndsAFragment();
        firstBitsAreNeeded();
        Expect.end();
    }

    private static void segment(Master m, int head, int... rest) {
        Expect.due("a good frame", m.feed(Master.frame(0xC4, Master.join(Master.bytes(head), rest))), 1);
    }

    private static void dueRequests(Master m, String what, int want) {
        Expect.due(what, m.station.count(4), want);
    }

    private static void oneSegmentIsEnough() {
        for (int number = 0; number < 64; number++) {
            Master m = Master.of(3, 3);
            segment(m, 0xC0 | number, 0xC5, 1);
            dueRequests(m, "any number begins", 1);
            Expect.due("its answer", Master.unpack(m.take()), 0xC5, 0x81, 0x80, 0);
        }
    }

    private static void segmentsGoOn() {
        Master m = Master.of(3, 3);
        segment(m, 0x40 | 62, 0xC1);
        segment(m, 63, 1, 1);
        dueRequests(m, "not the last one", 0);
        segment(m, 0);
        segment(m, 1, 2, 6, 77);
        segment(m, 0x80 | 2, 1, 6);
        dueRequests(m, "the last one", 1);
        int[] answer = Master.unpack(m.take());
        Expect.due("it was read whole", answer.length, 4 + 21);
        Expect.due("with an object that there is not", answer[3], 2);
        segment(m, 0x40 | 9, 0xC2);
        segment(m, 0x40 | 30, 0xC3, 77);
        segment(m, 0x80 | 31, 5);
        Expect.due("a first one begins anew", Master.unpack(m.take()), 0xC3, 0x81, 0x80, 1);
    }

    private static void gapsEndAFragment() {
        int[] wrongNumbers = {5, 7, 4, 0, 63, 22};
        for (int wrong : wrongNumbers) {
            Master m = Master.of(3, 3);
            segment(m, 0x40 | 5, 0xC1);
            segment(m, wrong, 1);
            segment(m, 0x80 | 6, 1);
            segment(m, 0x80 | wrong + 1 & 0xBF, 1);
            dueRequests(m, "a gap to " + wrong, 0);
            segment(m, 0xC0 | 6, 0xC1, 1);
            dueRequests(m, "a first one behind a gap", 1);
        }
        Master m = Master.of(3, 3);
        segment(m, 0x80 | 1, 0xC1, 1);
        segment(m, 0x80 | 0, 0xC1, 1);
        dueRequests(m, "there is none to go on", 0);
        m.feed(Master.frame(0xC4, 0x40 | 7, 0xC1));
        m.feed(Master.frame(0xC9, 8, 1));
        segment(m, 0x80 | 8, 1);
        dueRequests(m, "frames that are not taken do no harm", 1);
    }

    private static void nothingGoesOnBehindTheLast() {
        Master m = Master.of(3, 3);
        segment(m, 0xC0 | 5, 0xC1, 1);
        segment(m, 0x80 | 6, 1, 2, 6);
        dueRequests(m, "a request is whole, nothing goes on", 1);
        segment(m, 0xC0 | 8, 0xC1);
        segment(m, 0x80 | 9, 1);
        dueRequests(m, "one byte was the last one", 1);
    }

    private static void fragmentsHaveALimit() {
        Master m = Master.of(3, 3);
        int[] most = Master.ramp(0xC1, 249);
        m.feed(Master.frame(0xC4, Master.join(Master.bytes(0xC0), most)));
        dueRequests(m, "249 bytes in one", 1);
        segment(m, 0x40, Master.ramp(0xC2, 248));
        segment(m, 0x81, 1);
        dueRequests(m, "249 bytes in two", 2);
        segment(m, 0x40, Master.ramp(0xC3, 249));
        segment(m, 0x81);
        dueRequests(m, "249 bytes and a last one without any", 3);
        segment(m, 0x40, Master.ramp(0xC4, 249));
        segment(m, 0x81, 1);
        dueRequests(m, "250 bytes", 3);
        segment(m, 0x40, Master.ramp(0xC4, 200));
        segment(m, 1, Master.ramp(0, 50));
        segment(m, 0x82);
        dueRequests(m, "250 bytes before the last one", 3);
        segment(m, 0x40, Master.ramp(0xC5, 249));
        segment(m, 1, Master.ramp(0, 249));
        segment(m, 2, Master.ramp(0, 249));
        segment(m, 0x83, 9);
        dueRequests(m, "far beyond", 3);
        segment(m, 0xC4, 0xC5, 1);
        dueRequests(m, "a first one behind it", 4);
    }

    private static void emptyDataEndsAFragment() {
        Master m = Master.of(3, 3);
        segment(m, 0x40, 0xC1);
        Expect.due("a good frame without data", m.feed(Master.frame(0xC4)), 1);
        segment(m, 0x81, 1);
        dueRequests(m, "no data ends it", 0);
        m.feed(Master.frame(0xC0));
        segment(m, 0x40, 0xC1);
        m.feed(Master.frame(0xE2));
        m.feed(Master.frame(0xE3));
        segment(m, 0x81, 1);
        dueRequests(m, "a frame that is not new takes nothing", 1);
        segment(m, 0x40, 0xC2);
        m.feed(Master.frame(0xC3));
        segment(m, 0x81, 1);
        dueRequests(m, "a confirmed one without data ends it", 1);
    }

    private static void firstBitsAreNeeded() {
        int[] wrong = {0x01, 0x41, 0x81, 0x3F, 0xBF, 0x7F};
        for (int control : wrong) {
            Master m = Master.of(3, 3);
            segment(m, 0xC0, control, 1);
            dueRequests(m, "no request with " + control, 0);
            Expect.due("no answer", m.station.count(0), 0);
        }
        Master m = Master.of(3, 3);
        segment(m, 0xC0);
        segment(m, 0xC0, 0xC1);
        dueRequests(m, "one byte is too short", 0);
        segment(m, 0xC0, 0xFF, 1);
        dueRequests(m, "other bits are free", 1);
        Expect.due("the sequence is four bits", Master.unpack(m.take()), 0xCF, 0x81, 0x80, 0);
    }
}
