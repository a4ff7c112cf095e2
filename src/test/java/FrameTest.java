/** Promise 2: which frames are seen in what comes, and which are good, bad or foreign. */
public final class FrameTest {
    private static final int[] STATUS = Master.frame(0xC9);

    public static void main(String[] args) {
        bytesComeHighestFirst();
        wrongLengthsThrow();
        framesComeInPieces();
        rubbishGoes();
        headsWithFaultsGo();
        dataWithFaultsIsBad();
        foreignOnesAreTold();
        longFramesAreSeen();
        severalComeAtOnce();
        Expect.end();
    }

    private static void bytesComeHighestFirst() {
        OutStation x = new OutStation(4, 3, 3, 3);
        Expect.due("a reset", x.feed(0x056405C0, 0x04000300, 0xF956FFFF, -1, -1, 10), 1);
        Expect.due("nothing waits", x.count(6), 0);
        Expect.due("the same and the next one's first two", x.feed(0x056405C0, 0x04000300, 0xF9560564, -1, -1, 12), 1);
        Expect.due("two wait", x.count(6), 2);
    }

    private static void wrongLengthsThrow() {
        OutStation x = new OutStation(4, 3, 3, 3);
        int[] wrong = {0, -1, 21, Integer.MIN_VALUE, Integer.MAX_VALUE};
        for (int n : wrong) {
            Expect.dueNoNumber("feed of " + n, () -> x.feed(0x05640564, 0, 0, 0, 0, n));
        }
        Expect.due("nothing came", x.count(6), 0);
        x.feed(0x05000000, 0, 0, 0, 0, 1);
        Expect.due("one came", x.count(6), 1);
        x.feed(0x64053132, 0x33343536, 0x37383941, 0x42434445, 0x46474849, 20);
        Expect.due("21 came: eleven and more go with a wrong check", x.count(6), 1);
    }

    private static void framesComeInPieces() {
        for (int size = 1; size <= 20; size++) {
            Master m = Master.of(3, 3);
            int[] frames = Master.join(STATUS, Master.frame(0xC4, Master.ramp(0, 40)), STATUS);
            Expect.due("good ones in pieces of " + size, m.feedBy(size, frames), 3);
            Expect.due("the answers", m.take(), Master.join(Master.reply(11), Master.reply(11)));
            m.dueFrames(3, 0, 0, 0);
        }
        Master m = Master.of(3, 3);
        for (int i = 0; i < 9; i++) {
            Expect.due("not whole yet", m.feed(STATUS[i]), 0);
            Expect.due("it waits", m.station.count(6), i + 1);
        }
        Expect.due("whole now", m.feed(STATUS[9]), 1);
        m.dueFrames(1, 0, 0, 0);
    }

    private static void rubbishGoes() {
        Master m = Master.of(3, 3);
        m.feed(0x77);
        m.dueFrames(0, 0, 0, 1);
        m.feed(0x78, 0x79);
        m.dueFrames(0, 0, 0, 1);
        m.feed(0x05);
        m.dueFrames(0, 0, 0, 1);
        m.feed(0x05);
        m.dueFrames(0, 0, 0, 1);
        m.feed(0x64);
        m.dueFrames(0, 0, 0, 2);
        m.feed(0x05, 0x64, 0x05, 0x64, 0x05, 0x64, 0x05);
        m.dueFrames(0, 0, 0, 9);
        Expect.due("the tenth byte shows that the first one is rubbish", m.feed(0x99), 0);
        m.dueFrames(0, 0, 0, 8);
        Expect.due("a good one behind rubbish", m.feed(Master.join(Master.ramp(90, 30), STATUS)), 1);
        m.dueFrames(1, 0, 0, 0);
    }

    private static void headsWithFaultsGo() {
        for (int i = 0; i < 10; i++) {
            for (int bit = 0; bit < 8; bit++) {
                Master m = Master.of(3, 3);
                int[] faulty = STATUS.clone();
                faulty[i] ^= 1 << bit;
                Expect.due("a head with a fault at " + i, m.feed(faulty), 0);
                Expect.due("and a good one behind it", m.feed(STATUS), 1);
                m.dueFrames(1, 0, 0, 0);
            }
        }
        for (int length = 0; length < 5; length++) {
            Master m = Master.of(3, 3);
            int[] shortHead = {0x05, 0x64, length, 0xC9, 4, 0, 3, 0, 0, 0};
            int check = Master.check(0x05, 0x64, length, 0xC9, 4, 0, 3, 0);
            shortHead[8] = check & 0xFF;
            shortHead[9] = check >> 8;
            Expect.due("a length of " + length, m.feed(Master.join(shortHead, STATUS)), 1);
            m.dueFrames(1, 0, 0, 0);
        }
        Master m = Master.of(3, 3);
        int[] inside = Master.join(Master.bytes(0x05, 0x64, 0x06), STATUS);
        Expect.due("a good one inside a wrong head", m.feed(inside), 1);
        m.dueFrames(1, 0, 0, 0);
    }

    private static void dataWithFaultsIsBad() {
        int[] frame = Master.frame(0xC4, Master.ramp(1, 35));
        for (int i = 10; i < frame.length; i++) {
            Master m = Master.of(3, 3);
            int[] faulty = frame.clone();
            faulty[i] ^= 0x10;
            Expect.due("data with a fault at " + i, m.feed(faulty), 0);
            m.dueFrames(0, 1, 0, 0);
            Expect.due("and a good one behind it", m.feed(STATUS), 1);
        }
        Master m = Master.of(3, 3);
        int[] hidden = Master.frame(0xC4, STATUS);
        hidden[hidden.length - 1] ^= 1;
        Expect.due("a frame inside a bad one goes with it", m.feed(hidden), 0);
        m.dueFrames(0, 1, 0, 0);
        int[] both = Master.frameOf(0xC4, 9, 9, 1, 2, 3);
        both[10] ^= 1;
        m.feed(both);
        m.dueFrames(0, 2, 0, 0);
        int[] reset = Master.frame(0xC0, 7, 7, 7);
        reset[12] ^= 1;
        m.feed(reset);
        m.dueFrames(0, 3, 0, 0);
        Expect.due("no answers to bad ones", m.station.count(0), 0);
    }

    private static void foreignOnesAreTold() {
        Master m = Master.of(3, 3);
        int[][] frames = {Master.frameOf(0xC9, 5, 3), Master.frameOf(0xC9, 4, 4), Master.frameOf(0xC9, 3, 4),
            Master.frameOf(0xC9, 0x104, 3), Master.frameOf(0xC9, 4, 0x103), Master.frameOf(0xC9, 0xFFFF, 3),
            Master.frame(0x89), Master.frame(0x49), Master.frame(0x09), Master.frame(0x44, 1, 2, 3)};
        for (int i = 0; i < frames.length; i++) {
            Expect.due("a foreign frame", m.feed(frames[i]), 0);
            m.dueFrames(0, 0, i + 1, 0);
        }
        Expect.due("no answers to foreign ones", m.station.count(0), 0);
        Expect.due("bits 5 and 4 are free", m.feed(Master.frame(0xF9)), 1);
        Expect.due("its answer", m.take(), Master.reply(11));
    }

    private static void longFramesAreSeen() {
        int[] lengths = {0, 1, 15, 16, 17, 32, 33, 248, 249, 250};
        for (int n : lengths) {
            Master m = Master.of(3, 3);
            int[] frame = Master.frame(0xC9, Master.ramp(n, n));
            Expect.due("bytes of a frame", frame.length, 10 + n + 2 * ((n + 15) / 16));
            for (int i = 0; i < frame.length - 1; i++) {
                m.feed(frame[i]);
            }
            m.dueFrames(0, 0, 0, frame.length - 1);
            int[] rest = Master.join(Master.bytes(frame[frame.length - 1]), Master.join(STATUS, STATUS));
            Expect.due("the last byte and what fits behind", m.feedBy(20, rest), 3);
            m.dueFrames(3, 0, 0, 0);
        }
    }

    private static void severalComeAtOnce() {
        Master m = Master.of(3, 3);
        Expect.due("two in one call", m.feed(Master.join(STATUS, STATUS)), 2);
        Expect.due("a foreign and a good one", m.feed(Master.join(Master.frame(0x89), STATUS)), 1);
        m.dueFrames(3, 0, 1, 0);
    }
}
