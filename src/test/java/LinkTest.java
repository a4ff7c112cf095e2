/** Promise 2: what good frames are answered with, and repeated ones told from new ones. */
public final class LinkTest {
    private static final int[] READ_NOTHING = {0xC0, 0xC1, 1};

    public static void main(String[] args) {
        plainOnesAreAnswered();
        nothingIsTakenBeforeAReset();
        countsTurn();
        testsTurnCountsToo();
        dataIsTakenBehindTheAnswer();
        Expect.end();
    }

    private static void dueReply(Master m, int control, int... want) {
        Expect.due("a good frame", m.feed(Master.frame(control)), 1);
        Expect.due("answer to " + Integer.toHexString(control), m.take(), want);
    }

    private static void plainOnesAreAnswered() {
        int[] unknown = {1, 5, 6, 7, 8, 10, 11, 12, 13, 14, 15};
        for (int code : unknown) {
            for (int bits = 0xC0; bits <= 0xF0; bits += 0x10) {
                dueReply(Master.of(3, 3), bits | code, Master.reply(15));
            }
        }
        for (int bits = 0xC0; bits <= 0xF0; bits += 0x10) {
            dueReply(Master.of(3, 3), bits | 0, Master.reply(0));
            dueReply(Master.of(3, 3), bits | 2, Master.reply(1));
            dueReply(Master.of(3, 3), bits | 3, Master.reply(1));
            dueReply(Master.of(3, 3), bits | 4);
            dueReply(Master.of(3, 3), bits | 9, Master.reply(11));
        }
        Expect.due("a link's answer", Master.reply(11), 0x05, 0x64, 5, 11, 3, 0, 4, 0,
                Master.check(5, 0x64, 5, 11, 3, 0, 4, 0) & 0xFF, Master.check(5, 0x64, 5, 11, 3, 0, 4, 0) >> 8);
    }

    private static void nothingIsTakenBeforeAReset() {
        Master m = Master.of(3, 3);
        m.feed(Master.frame(0xF3, READ_NOTHING));
        m.feed(Master.frame(0xD3, READ_NOTHING));
        Expect.due("answers before a reset", m.take(), Master.join(Master.reply(1), Master.reply(1)));
        Expect.due("no requests", m.station.count(4), 0);
        m.feed(Master.frame(0xC4, READ_NOTHING));
        Expect.due("without a confirm it is taken", m.station.count(4), 1);
        m.take();
        m.feed(Master.frame(0xC0, READ_NOTHING));
        m.feed(Master.frame(0xC9, READ_NOTHING));
        m.feed(Master.frame(0xC1, READ_NOTHING));
        Expect.due("others take no data", m.station.count(4), 1);
    }

    private static void countsTurn() {
        Master m = Master.of(3, 3);
        dueReply(m, 0xC0, Master.reply(0));
        int[] controls = {0xD3, 0xF3, 0xF3, 0xE3, 0xC3, 0xC3, 0xD3, 0xF3, 0xF3};
        int[] requests = {0, 1, 1, 1, 2, 2, 2, 3, 3};
        for (int i = 0; i < controls.length; i++) {
            m.station.take();
            m.feed(Master.frame(controls[i], 0xC0, 0xC0 | i, 0));
            Expect.due("every one is answered", m.take(), Master.reply(0));
            Expect.due("requests behind frame " + i, m.station.count(4), requests[i]);
        }
        dueReply(m, 0xC0, Master.reply(0));
        m.feed(Master.frame(0xC3, 0xC0, 0xC1, 0));
        Expect.due("a reset sets the count to 1: 0 is old", m.station.count(4), 3);
        m.feed(Master.frame(0xE3, 0xC0, 0xC1, 0));
        Expect.due("1 is new", m.station.count(4), 4);
    }

    private static void testsTurnCountsToo() {
        Master m = Master.of(3, 3);
        dueReply(m, 0xE2, Master.reply(1));
        dueReply(m, 0xC0, Master.reply(0));
        dueReply(m, 0xE2, Master.reply(0));
        m.feed(Master.frame(0xE3, 0xC0, 0xC1, 0));
        Expect.due("a test has turned the count", m.station.count(4), 0);
        m.feed(Master.frame(0xE2, 0xC0, 0xC1, 0));
        m.feed(Master.frame(0xC3, 0xC0, 0xC1, 0));
        Expect.due("a repeated test has not", m.station.count(4), 1);
        m.feed(Master.frame(0xE2, 0xC0, 0xC2, 0));
        m.feed(Master.frame(0xC3, 0xC0, 0xC3, 0));
        Expect.due("a test takes no data, and turns", m.station.count(4), 2);
    }

    private static void dataIsTakenBehindTheAnswer() {
        Master m = Master.of(3, 3);
        dueReply(m, 0xC0, Master.reply(0));
        m.feed(Master.frame(0xF3, READ_NOTHING));
        int[] answer = Master.frameOf(0x44, Master.MASTER, Master.ADDRESS, 0xC0, 0xC1, 0x81, 0x80, 0);
        Expect.due("the link's answer, then the other", m.take(), Master.join(Master.reply(0), answer));
        m.feed(Master.frame(0xF3, READ_NOTHING));
        Expect.due("repeated on the link: its answer alone", m.take(), Master.reply(0));
    }
}
