/** Promise 2: segments put together, and which fragments are requests. */
public final class FragmentTest {
    public static void main(String[] args) {
        oneSegmentIsEnough();
        segmentsGoOn();
        gapsEndAFragment();
        nothingGoesOnBehindTheLast();
        fragmentsHaveALimit();
        emptyDataEndsAFragment();
        firstBitsAreNeeded();
        Expect.end();
    }

    private static void oneSegmentIsEnough() {
        for (int number = 0; number < 64; number++) {
            Master m = Master.of(3, 3);
            m.segment(0xC0 | number, 0xC5, 1);
            m.dueRequests("any number begins", 1);
            Expect.due("its answer", Master.unpack(m.take()), 0xC5, 0x81, 0x80, 0);
        }
    }

    private static void segmentsGoOn() {
        Master m = Master.of(3, 3);
        m.segment(0x40 | 62, 0xC1);
        m.segment(63, 1, 1);
        m.dueRequests("not the last one", 0);
        m.segment(0);
        m.segment(1, 2, 6, 77);
        m.segment(0x80 | 2, 1, 6);
        m.dueRequests("the last one", 1);
        int[] answer = Master.unpack(m.take());
        Expect.due("it was read whole", answer.length, 4 + 21);
        Expect.due("with an object that there is not", answer[3], 2);
        m.segment(0x40 | 9, 0xC2);
        m.segment(0x40 | 30, 0xC3, 77);
        m.segment(0x80 | 31, 5);
        Expect.due("a first one begins anew", Master.unpack(m.take()), 0xC3, 0x81, 0x80, 1);
    }

    private static void gapsEndAFragment() {
        int[] wrongNumbers = {5, 7, 4, 0, 63, 22};
        for (int wrong : wrongNumbers) {
            Master m = Master.of(3, 3);
            m.segment(0x40 | 5, 0xC1);
            m.segment(wrong, 1);
            m.segment(0x80 | 6, 1);
            m.segment(0x80 | wrong + 1 & 0xBF, 1);
            m.dueRequests("a gap to " + wrong, 0);
            m.segment(0xC0 | 6, 0xC1, 1);
            m.dueRequests("a first one behind a gap", 1);
        }
        Master m = Master.of(3, 3);
        m.segment(0x80 | 1, 0xC1, 1);
        m.segment(0x80 | 0, 0xC1, 1);
        m.dueRequests("there is none to go on", 0);
        m.feed(Master.frame(0xC4, 0x40 | 7, 0xC1));
        m.feed(Master.frame(0xC9, 8, 1));
        m.segment(0x80 | 8, 1);
        m.dueRequests("frames that are not taken do no harm", 1);
    }

    private static void nothingGoesOnBehindTheLast() {
        Master m = Master.of(3, 3);
        m.segment(0xC0 | 5, 0xC1, 1);
        m.segment(0x80 | 6, 1, 2, 6);
        m.dueRequests("a request is whole, nothing goes on", 1);
        m.segment(0xC0 | 8, 0xC1);
        m.segment(0x80 | 9, 1);
        m.dueRequests("one byte was the last one", 1);
    }

    private static void fragmentsHaveALimit() {
        Master m = Master.of(3, 3);
        int[] most = Master.ramp(0xC1, 249);
        m.feed(Master.frame(0xC4, Master.join(Master.bytes(0xC0), most)));
        m.dueRequests("249 bytes in one", 1);
        m.segment(0x40, Master.ramp(0xC2, 248));
        m.segment(0x81, 1);
        m.dueRequests("249 bytes in two", 2);
        m.segment(0x40, Master.ramp(0xC3, 249));
        m.segment(0x81);
        m.dueRequests("249 bytes and a last one without any", 3);
        m.segment(0x40, Master.ramp(0xC4, 249));
        m.segment(0x81, 1);
        m.dueRequests("250 bytes", 3);
        m.segment(0x40, Master.ramp(0xC4, 200));
        m.segment(1, Master.ramp(0, 50));
        m.segment(0x82);
        m.dueRequests("250 bytes before the last one", 3);
        m.segment(0x40, Master.ramp(0xC5, 249));
        m.segment(1, Master.ramp(0, 249));
        m.segment(2, Master.ramp(0, 249));
        m.segment(0x83, 9);
        m.dueRequests("far beyond", 3);
        m.segment(0xC4, 0xC5, 1);
        m.dueRequests("a first one behind it", 4);
    }

    private static void emptyDataEndsAFragment() {
        Master m = Master.of(3, 3);
        m.segment(0x40, 0xC1);
        Expect.due("a good frame without data", m.feed(Master.frame(0xC4)), 1);
        m.segment(0x81, 1);
        m.dueRequests("no data ends it", 0);
        m.feed(Master.frame(0xC0));
        m.segment(0x40, 0xC1);
        m.feed(Master.frame(0xE2));
        m.feed(Master.frame(0xE3));
        m.segment(0x81, 1);
        m.dueRequests("a frame that is not new takes nothing", 1);
        m.segment(0x40, 0xC2);
        m.feed(Master.frame(0xC3));
        m.segment(0x81, 1);
        m.dueRequests("a confirmed one without data ends it", 1);
    }

    private static void firstBitsAreNeeded() {
        int[] wrong = {0x01, 0x41, 0x81, 0x3F, 0xBF, 0x7F};
        for (int control : wrong) {
            Master m = Master.of(3, 3);
            m.segment(0xC0, control, 1);
            m.dueRequests("no request with " + control, 0);
            Expect.due("no answer", m.station.count(0), 0);
        }
        Master m = Master.of(3, 3);
        m.segment(0xC0);
        m.segment(0xC0, 0xC1);
        m.dueRequests("one byte is too short", 0);
        m.segment(0xC0, 0xFF, 1);
        m.dueRequests("other bits are free", 1);
        Expect.due("the sequence is four bits", Master.unpack(m.take()), 0xCF, 0x81, 0x80, 0);
    }
}
