/** Section 1 of the document, the edges of the link: each sentence has a test of its own. */
public final class LinkEdgesTest {
    private static final int[] CONFIRM = {0xC0, 0xC1, 0};

    public static void main(String[] args) {
        Expect.holds("2 TEST and 3 CONFIRMED: before the first reset answer 1", LinkEdgesTest::nothingCountsBeforeAReset);
        Expect.holds("0 RESET: the next COUNT is 1, answer 0", LinkEdgesTest::aResetSetsTheCount);
        Expect.holds("if its bit 5 is the next count, that is turned", LinkEdgesTest::theCountTurnsEachTime);
        Expect.holds("else answer 0", LinkEdgesTest::repeatedOnesAreAnsweredToo);
        Expect.holds("(and for 3 the data is taken then, behind that answer)", LinkEdgesTest::onlyNewConfirmedDataIsTaken);
        Expect.holds("4: the data is taken, no answer", LinkEdgesTest::plainDataNeedsNoReset);
        Expect.holds("9: answer 11; else answer 15", LinkEdgesTest::everyOtherCodeIsAnswered);
        Expect.holds("CONTROL's lowest four bits", LinkEdgesTest::bitFourIsFree);
        Expect.holds("An ANSWER is a frame without data", LinkEdgesTest::answersHaveNoData);
        Expect.end();
    }

    private static void dueReply(Master m, int control, int want, int... data) {
        Expect.due("a good frame", m.feed(Master.frame(control, data)), 1);
        Expect.due("the answer to " + Integer.toHexString(control), m.take(), Master.reply(want));
    }

    private static void nothingCountsBeforeAReset() {
        Master m = Master.of(3, 3);
        int[] controls = {0xC2, 0xE2, 0xC3, 0xE3, 0xE3, 0xC3, 0xE2};
        for (int control : controls) {
            dueReply(m, control, 1, CONFIRM);
            m.dueRequests("nothing is taken", 0);
        }
        dueReply(m, 0xC0, 0);
        dueReply(m, 0xE3, 0, CONFIRM);
        m.dueRequests("none of them had turned the count", 1);
    }

    private static void aResetSetsTheCount() {
        Master m = Master.of(3, 3);
        dueReply(m, 0xC0, 0);
        dueReply(m, 0xC3, 0, CONFIRM);
        m.dueRequests("0 is not the next count", 0);
        dueReply(m, 0xE3, 0, CONFIRM);
        m.dueRequests("1 is", 1);
        dueReply(m, 0xC0, 0);
        dueReply(m, 0xC3, 0, CONFIRM);
        m.dueRequests("behind a second reset 0 is not", 1);
        dueReply(m, 0xE3, 0, CONFIRM);
        m.dueRequests("1 is again", 2);
        dueReply(m, 0xE0, 0);
        dueReply(m, 0xE0, 0);
        dueReply(m, 0xE3, 0, CONFIRM);
        m.dueRequests("whatever a reset's own bit 5 is", 3);
    }

    private static void theCountTurnsEachTime() {
        Master m = Master.of(3, 3);
        dueReply(m, 0xC0, 0);
        for (int i = 1; i <= 20; i++) {
            dueReply(m, i % 2 == 1 ? 0xE3 : 0xC3, 0, CONFIRM);
            m.dueRequests("a count that is next", i);
        }
        m = Master.of(3, 3);
        dueReply(m, 0xC0, 0);
        dueReply(m, 0xE2, 0);
        dueReply(m, 0xC3, 0, CONFIRM);
        m.dueRequests("a test turns it too", 1);
        dueReply(m, 0xC2, 0);
        dueReply(m, 0xE3, 0, CONFIRM);
        m.dueRequests("a test with the other count does not", 2);
    }

    private static void repeatedOnesAreAnsweredToo() {
        Master m = Master.of(3, 3);
        dueReply(m, 0xC0, 0);
        dueReply(m, 0xE3, 0, CONFIRM);
        for (int i = 0; i < 4; i++) {
            dueReply(m, 0xE3, 0, CONFIRM);
            dueReply(m, 0xE2, 0);
        }
        m.dueRequests("repeated ones are taken once", 1);
    }

    private static void onlyNewConfirmedDataIsTaken() {
        Master m = Master.of(3, 3);
        int[] read = {0xC0, 0xC1, 1};
        dueReply(m, 0xC0, 0);
        dueReply(m, 0xE2, 0, read);
        m.dueRequests("a test's data is not taken", 0);
        m.feed(Master.frame(0xC3, read));
        int[] answer = Master.frameOf(0x44, Master.MASTER, Master.ADDRESS, 0xC0, 0xC1, 0x81, 0x80, 0);
        Expect.due("the link's answer stands before the other", m.take(), Master.join(Master.reply(0), answer));
        dueReply(m, 0xC3, 0, read);
        m.dueRequests("repeated data is not taken", 1);
        int[] controls = {0xC0, 0xC9, 0xC1, 0xCF};
        int[] replies = {0, 11, 15, 15};
        for (int i = 0; i < controls.length; i++) {
            dueReply(m, controls[i], replies[i], read);
        }
        m.dueRequests("no other takes data", 1);
    }

    private static void plainDataNeedsNoReset() {
        Master m = Master.of(3, 3);
        for (int i = 1; i <= 3; i++) {
            m.feed(Master.frame(i == 2 ? 0xE4 : 0xC4, CONFIRM));
            m.dueRequests("every one is taken", i);
        }
        Expect.due("the link does not answer", m.take());
        dueReply(m, 0xC0, 0);
        m.feed(Master.frame(0xE4, CONFIRM));
        m.dueRequests("behind a reset, too", 4);
        dueReply(m, 0xE3, 0, CONFIRM);
        m.dueRequests("it does not turn the count", 5);
    }

    private static void everyOtherCodeIsAnswered() {
        for (int code = 0; code < 16; code++) {
            if (code == 0 || code == 2 || code == 3 || code == 4) {
                continue;
            }
            Master m = Master.of(3, 3);
            dueReply(m, 0xC0 | code, code == 9 ? 11 : 15);
            dueReply(m, 0xC0, 0);
            dueReply(m, 0xE0 | code, code == 9 ? 11 : 15);
            dueReply(m, 0xE3, 0, CONFIRM);
            m.dueRequests("the count was not turned", 1);
        }
    }

    private static void bitFourIsFree() {
        Master m = Master.of(3, 3);
        dueReply(m, 0xD0, 0);
        dueReply(m, 0xF3, 0, CONFIRM);
        dueReply(m, 0xD3, 0, CONFIRM);
        m.dueRequests("with bit 4", 2);
        dueReply(m, 0xE3, 0, CONFIRM);
        dueReply(m, 0xC3, 0, CONFIRM);
        m.dueRequests("without it", 4);
        dueReply(m, 0xD9, 11);
        m.feed(Master.frame(0xD4, CONFIRM));
        m.dueRequests("plain data", 5);
    }

    private static void answersHaveNoData() {
        Master m = new Master(new OutStation(0x1234, 0xFEDC, 3, 3));
        m.feed(Master.frameOf(0xC0, 0x1234, 0xFEDC, Master.ramp(0, 100)));
        int check = Master.check(0x05, 0x64, 5, 0, 0xDC, 0xFE, 0x34, 0x12);
        Expect.due("to the master, from the outstation", m.take(),
                0x05, 0x64, 5, 0, 0xDC, 0xFE, 0x34, 0x12, check & 0xFF, check >> 8);
    }
}
