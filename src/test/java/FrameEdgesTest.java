/** Section 1 of the document, the edges of frames: each sentence has a test of its own. */
public final class FrameEdgesTest {
    private static final int[] STATUS = Master.frame(0xC9);

    public static void main(String[] args) {
        Expect.holds("Numbers of two bytes stand with the lower byte first.", FrameEdgesTest::lowerBytesStandFirst);
        Expect.holds("c is 0; for each byte ... in the end all its 16 bits are turned", FrameEdgesTest::checkHasSixteenBits);
        Expect.holds("A FRAME: 05, 64", FrameEdgesTest::bothStartBytesCount);
        Expect.holds("LENGTH (5 to 255: 5 and the bytes of data)", FrameEdgesTest::fiveIsTheLeastLength);
        Expect.holds("LENGTH (5 to 255: 5 and the bytes of data)", FrameEdgesTest::mostLengthIs255);
        Expect.holds("sixteen bytes and their check, and so on", FrameEdgesTest::sixteenBytesHaveOneCheck);
        Expect.holds("the last ones (if any) and theirs", FrameEdgesTest::theLastOnesMayBeMissing);
        Expect.holds("As long as it has two bytes", FrameEdgesTest::oneByteWaits);
        Expect.holds("if they are not 05 and 64, the first one goes", FrameEdgesTest::theFirstOfTwoGoes);
        Expect.holds("If it has ten", FrameEdgesTest::nineBytesWait);
        Expect.holds("the length is below 5 ..., the first one goes", FrameEdgesTest::lengthsBelowFiveGo);
        Expect.holds("or the check is wrong, the first one goes", FrameEdgesTest::wrongHeadsGo);
        Expect.holds("the first one goes", FrameEdgesTest::onlyTheFirstOneGoes);
        Expect.holds("If it has the whole frame, that goes", FrameEdgesTest::onlyWholeFramesGo);
        Expect.holds("it is BAD if a check of its data is wrong", FrameEdgesTest::everyCheckOfDataCounts);
        Expect.holds("that goes: it is BAD", FrameEdgesTest::badOnesGoWhole);
        Expect.holds("else it is FOREIGN", FrameEdgesTest::badComesBeforeForeign);
        Expect.holds("if it is not to the outstation from the master", FrameEdgesTest::everyBitOfAnAddressCounts);
        Expect.holds("or CONTROL's bits 7 and 6 are not both 1", FrameEdgesTest::bothControlBitsCount);
        Expect.holds("WHAT COMES stands in a row.", FrameEdgesTest::theLongestRowIsKept);
        Expect.end();
    }

    private static void lowerBytesStandFirst() {
        Master m = new Master(new OutStation(0x0201, 0x0403, 3, 3));
        int check = Master.check(0x05, 0x64, 5, 0xC9, 0x01, 0x02, 0x03, 0x04);
        int[] lowerFirst = {0x05, 0x64, 5, 0xC9, 0x01, 0x02, 0x03, 0x04, check & 0xFF, check >> 8};
        Expect.due("lower bytes first", m.feed(lowerFirst), 1);
        Expect.due("so does the answer", m.take(), Master.frameOf(11, 0x0403, 0x0201));
        check = Master.check(0x05, 0x64, 5, 0xC9, 0x02, 0x01, 0x04, 0x03);
        m.feed(0x05, 0x64, 5, 0xC9, 0x02, 0x01, 0x04, 0x03, check & 0xFF, check >> 8);
        m.dueFrames(1, 0, 1, 0);
        lowerFirst[8] = lowerFirst[8] ^ lowerFirst[9];
        lowerFirst[9] = lowerFirst[8] ^ lowerFirst[9];
        lowerFirst[8] = lowerFirst[8] ^ lowerFirst[9];
        Expect.due("a check with its higher byte first", m.feed(lowerFirst), 0);
        Master n = Master.of(3, 3);
        n.station.analog(0, 0x1234);
        int[] analogs = n.askObjects(0xC0, 1, 30, 2, 6);
        Expect.due("a value's lower byte", analogs[6], 0x34);
        Expect.due("its higher byte", analogs[7], 0x12);
    }

    private static void checkHasSixteenBits() {
        OutStation x = new OutStation(4, 3, 3, 3);
        Expect.due("nothing: all bits of 0 turned", x.check(99, 0), 0xFFFF);
        Expect.due("one byte 0", x.check(0, 1), 0xFFFF);
        Expect.due("one byte 1", x.check(1, 1), Master.check(1));
        Expect.due("one byte FF", x.check(0xFF, 1), Master.check(0xFF));
        for (int n = 0; n <= 300; n++) {
            Expect.due("all bits of " + n + " bytes", x.check(n, n), Master.check(Master.ramp(n, n)));
        }
    }

    private static void bothStartBytesCount() {
        int[][] starts = {{0x05, 0x63}, {0x05, 0x65}, {0x04, 0x64}, {0x06, 0x64}, {0x64, 0x05}, {0x05, 0x05}, {0x64, 0x64}};
        for (int[] start : starts) {
            Master m = Master.of(3, 3);
            int check = Master.check(start[0], start[1], 5, 0xC9, 4, 0, 3, 0);
            m.feed(start[0], start[1], 5, 0xC9, 4, 0, 3, 0, check & 0xFF, check >> 8);
            m.feed(STATUS);
            m.dueFrames(1, 0, 0, 0);
        }
    }

    private static void fiveIsTheLeastLength() {
        Master m = Master.of(3, 3);
        Expect.due("a length of five", STATUS[2], 5);
        Expect.due("ten bytes are whole", m.feed(STATUS), 1);
        m.dueFrames(1, 0, 0, 0);
        int[] six = Master.frame(0xC9, 1);
        Expect.due("a length of six", six[2], 6);
        Expect.due("thirteen bytes are whole", m.feed(six), 1);
        m.dueFrames(2, 0, 0, 0);
    }

    /** A read of 82 objects has 248 bytes; with one more, bytes are missing. */
    private static int[] longRead(int bytes) {
        int[] read = new int[bytes];
        read[0] = 0xC1;
        read[1] = 1;
        for (int i = 2; i < bytes; i++) {
            read[i] = i % 3 == 2 ? 1 : i % 3 == 0 ? 2 : 6;
        }
        return read;
    }

    private static void mostLengthIs255() {
        Master m = Master.of(3, 3);
        int[] frame = Master.frame(0xC4, Master.join(Master.bytes(0xC0), longRead(249)));
        Expect.due("the length", frame[2], 255);
        Expect.due("the bytes", frame.length, 292);
        Expect.due("it is good", m.feed(frame), 1);
        m.dueFrames(1, 0, 0, 0);
        Expect.due("its last byte was taken", Master.unpack(m.take())[3], 4);
        Expect.due("one byte less", m.ask(longRead(248))[3], 0);
    }

    private static void sixteenBytesHaveOneCheck() {
        int[][] lengths = {{15, 27}, {16, 28}, {17, 31}, {31, 45}, {32, 46}, {33, 49}, {48, 64}, {249, 291}, {250, 292}};
        for (int[] pair : lengths) {
            Master m = Master.of(3, 3);
            int[] frame = Master.frame(0xC9, Master.ramp(7, pair[0]));
            Expect.due("bytes of a frame with " + pair[0], frame.length, pair[1]);
            Expect.due("it is whole", m.feed(frame), 1);
            m.dueFrames(1, 0, 0, 0);
        }
        Master m = Master.of(3, 3);
        m.station.sort(false, 0, 1);
        m.station.binary(0, true);
        // 1 and 4 and 21 and 6 bytes are 32: two checks, and no third one of nothing.
        m.send(0xC1, 1, 1, 2, 6, 60, 2, 6);
        Expect.due("an answer of just two blocks", m.take().length, 10 + 32 + 4);
        m.send(0xC2, 1, 1, 2, 6);
        Expect.due("one of 26 bytes", m.take().length, 10 + 26 + 4);
    }

    private static void theLastOnesMayBeMissing() {
        Master m = Master.of(3, 3);
        Expect.due("no data and no check of it", m.feed(Master.join(STATUS, STATUS)), 2);
        Expect.due("just sixteen and nothing behind", m.feed(Master.join(Master.frame(0xC9, Master.ramp(0, 16)), STATUS)), 2);
        m.dueFrames(4, 0, 0, 0);
        Expect.due("the answers have no data", m.take().length, 40);
    }

    private static void oneByteWaits() {
        for (int b = 0; b < 256; b++) {
            Master m = Master.of(3, 3);
            m.dueFrames(0, 0, 0, 0);
            m.feed(b);
            m.dueFrames(0, 0, 0, 1);
        }
    }

    private static void theFirstOfTwoGoes() {
        int[][] pairs = {{0x05, 0x63}, {0x05, 0x65}, {0x04, 0x64}, {0x06, 0x64}, {0x64, 0x05}, {0x05, 0x05}, {0, 0}};
        for (int[] pair : pairs) {
            Master m = Master.of(3, 3);
            m.feed(pair);
            m.dueFrames(0, 0, 0, 1);
        }
        Master m = Master.of(3, 3);
        m.feed(0x05, 0x64);
        m.dueFrames(0, 0, 0, 2);
        m = Master.of(3, 3);
        m.feed(0x77, 0x05);
        Expect.due("the second one may begin a frame", m.feed(java.util.Arrays.copyOfRange(STATUS, 1, 10)), 1);
        m.dueFrames(1, 0, 0, 0);
    }

    private static void nineBytesWait() {
        Master m = Master.of(3, 3);
        m.feed(0x05, 0x64, 0, 0, 0, 0, 0, 0, 0);
        m.dueFrames(0, 0, 0, 9);
        m.feed(0);
        m.dueFrames(0, 0, 0, 1);
        Master n = Master.of(3, 3);
        n.feed(java.util.Arrays.copyOf(STATUS, 9));
        n.dueFrames(0, 0, 0, 9);
        Expect.due("the tenth one", n.feed(STATUS[9]), 1);
        n.dueFrames(1, 0, 0, 0);
    }

    private static void lengthsBelowFiveGo() {
        for (int length = 0; length < 5; length++) {
            Master m = Master.of(3, 3);
            int check = Master.check(0x05, 0x64, length, 0xC9, 4, 0, 3, 0);
            m.feed(0x05, 0x64, length, 0xC9, 4, 0, 3, 0, check & 0xFF, check >> 8);
            m.dueFrames(0, 0, 0, 1);
            Expect.due("a good one behind it", m.feed(STATUS), 1);
            m.dueFrames(1, 0, 0, 0);
        }
    }

    private static void wrongHeadsGo() {
        for (int bit = 0; bit < 16; bit++) {
            Master m = Master.of(3, 3);
            int[] wrong = STATUS.clone();
            wrong[8 + bit / 8] ^= 1 << bit % 8;
            m.feed(wrong);
            m.dueFrames(0, 0, 0, 1);
            Expect.due("a good one behind it", m.feed(STATUS), 1);
        }
        int[] noCheck = STATUS.clone();
        noCheck[8] ^= 0xFF;
        noCheck[9] ^= 0xFF;
        Expect.due("a check whose bits are not turned", Master.of(3, 3).feed(noCheck), 0);
    }

    private static void onlyTheFirstOneGoes() {
        for (int more = 1; more <= 8; more++) {
            Master m = Master.of(3, 3);
            int[] head = new int[1 + more];
            head[0] = 0x05;
            head[1] = 0x64;
            // Behind the first byte of a wrong head, its other bytes are looked at again.
            Expect.due("a frame that begins inside a wrong head", m.feed(Master.join(head, STATUS)), 1);
            m.dueFrames(1, 0, 0, 0);
        }
    }

    private static void onlyWholeFramesGo() {
        int[] lengths = {0, 1, 16, 17, 250};
        for (int n : lengths) {
            Master m = Master.of(3, 3);
            int[] frame = Master.frame(0xC9, Master.ramp(0, n));
            m.feed(java.util.Arrays.copyOf(frame, frame.length - 1));
            m.dueFrames(0, 0, 0, frame.length - 1);
            Expect.due("the last byte", m.feed(frame[frame.length - 1]), 1);
            m.dueFrames(1, 0, 0, 0);
        }
    }

    private static void everyCheckOfDataCounts() {
        int[] frame = Master.frame(0xC9, Master.ramp(3, 250));
        for (int block = 0; block < 16; block++) {
            int at = 10 + 18 * block;
            int checkAt = Math.min(at + 16, frame.length - 2);
            int[] places = {at, checkAt - 1, checkAt, checkAt + 1};
            for (int place : places) {
                Master m = Master.of(3, 3);
                int[] wrong = frame.clone();
                wrong[place] ^= 0x80;
                Expect.due("a fault at " + place, m.feed(wrong), 0);
                m.dueFrames(0, 1, 0, 0);
            }
        }
    }

    private static void badOnesGoWhole() {
        Master m = Master.of(3, 3);
        int[] around = Master.frame(0xC9, STATUS);
        around[around.length - 1] ^= 1;
        Expect.due("what stands inside goes with it, what stands behind does not", m.feed(Master.join(around, STATUS)), 1);
        m.dueFrames(1, 1, 0, 0);
        Expect.due("one answer", m.take(), Master.reply(11));
        int[] reset = Master.frame(0xC0, 1);
        reset[10] ^= 1;
        m.feed(reset);
        m.feed(Master.frame(0xE2));
        Expect.due("a bad reset is none", m.take(), Master.reply(1));
    }

    private static void badComesBeforeForeign() {
        Master m = Master.of(3, 3);
        int[][] frames = {Master.frameOf(0xC9, 5, 3, 1), Master.frameOf(0xC9, 4, 5, 1), Master.frame(0x09, 1)};
        for (int i = 0; i < frames.length; i++) {
            m.feed(frames[i]);
            m.dueFrames(0, i, i + 1, 0);
            frames[i][12] ^= 1;
            m.feed(frames[i]);
            m.dueFrames(0, i + 1, i + 1, 0);
        }
    }

    private static void everyBitOfAnAddressCounts() {
        for (int bit = 0; bit < 16; bit++) {
            Master m = Master.of(3, 3);
            m.feed(Master.frameOf(0xC9, 4 ^ 1 << bit, 3));
            m.dueFrames(0, 0, 1, 0);
            m.feed(Master.frameOf(0xC9, 4, 3 ^ 1 << bit));
            m.dueFrames(0, 0, 2, 0);
            m.feed(Master.frameOf(0xC0, 4, 3 ^ 1 << bit));
            m.feed(Master.frame(0xE2));
            Expect.due("a foreign reset is none, and not answered", m.take(), Master.reply(1));
        }
    }

    private static void bothControlBitsCount() {
        for (int bits = 0; bits < 16; bits++) {
            Master m = Master.of(3, 3);
            boolean good = bits >= 12;
            Expect.due("control " + Integer.toHexString(bits) + "9", m.feed(Master.frame(bits << 4 | 9)), good ? 1 : 0);
            m.dueFrames(good ? 1 : 0, 0, good ? 0 : 1, 0);
            Expect.due("bytes sent", m.station.count(0), good ? 10 : 0);
        }
    }

    private static void theLongestRowIsKept() {
        Master m = Master.of(3, 3);
        int[] frame = Master.frame(0xC9, Master.ramp(1, 250));
        m.feed(java.util.Arrays.copyOf(frame, 291));
        m.dueFrames(0, 0, 0, 291);
        int[] twenty = Master.join(Master.bytes(frame[291]), STATUS, java.util.Arrays.copyOf(STATUS, 9));
        Expect.due("twenty bytes behind 291", m.feed(twenty), 2);
        m.dueFrames(2, 0, 0, 9);
        Expect.due("the last one of all", m.feed(STATUS[9]), 1);
        m.dueFrames(3, 0, 0, 0);
    }
}
