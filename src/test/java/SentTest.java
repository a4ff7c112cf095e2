/** Promises 8 and 9: what was sent, and that it goes. */
public final class SentTest {
    public static void main(String[] args) {
        bytesStandTillTheyAreTaken();
        whatHasNoRoomIsNotSent();
        anAnswerWithoutRoomIsStillOne();
        Expect.end();
    }

    private static void bytesStandTillTheyAreTaken() {
        Master m = Master.of(3, 3);
        OutStation x = m.station;
        Expect.due("nothing yet", x.take(), 0);
        Expect.dueNoPlace("sent(0) of nothing", () -> x.sent(0));
        m.feed(Master.frame(0xC9));
        m.feed(Master.frame(0xC0));
        Expect.due("both", m.peek(), Master.join(Master.reply(11), Master.reply(0)));
        Expect.due("they still stand", x.count(0), 20);
        Expect.dueNoPlace("sent(20)", () -> x.sent(20));
        Expect.dueNoPlace("sent(-1)", () -> x.sent(-1));
        Expect.dueNoPlace("sent(most)", () -> x.sent(Integer.MAX_VALUE));
        Expect.due("they go", x.take(), 20);
        Expect.due("once", x.take(), 0);
        Expect.dueNoPlace("sent(0) behind take()", () -> x.sent(0));
        m.feed(Master.frame(0xC1));
        Expect.due("later ones stand from 0 on", m.take(), Master.reply(15));
    }

    /** Forty whole reads, each of 99 bytes. */
    private static Master withForty() {
        Master m = Master.of(9, 3);
        m.station.sort(false, 0, 1);
        m.station.binary(0, true);
        for (int i = 0; i < 40; i++) {
            m.send(0xC0 | i & 15, 1, 60, 1, 6);
        }
        Expect.due("40 answers of 99 bytes", m.station.count(0), 3960);
        return m;
    }

    private static void whatHasNoRoomIsNotSent() {
        Master m = withForty();
        m.send(0xC9, 1, 60, 1, 6);
        Expect.due("the 41st has no room", m.station.count(0), 3960);
        m.send(0xCA, 1);
        Expect.due("a short one has", m.station.count(0), 3977);
        Expect.due("with the number that is next", m.station.sent(3970), 0xC0 | 40);
        m.feed(Master.frame(0xC9));
        m.feed(Master.frame(0xC9));
        Expect.due("the link's too", m.station.count(0), 3997);
        m.feed(Master.frame(0xC9));
        Expect.due("but for the last one", m.station.count(0), 3997);
        Expect.due("all go", m.station.take(), 3997);
        m = withForty();
        for (int i = 0; i < 8; i++) {
            m.station.binary(0, i % 2 == 1);
        }
        m.send(0xC9, 1, 60, 2, 6);
        Expect.due("4001 bytes do not fit", m.station.count(0), 3960);
        m.send(0xCA, 1, 1, 2, 6);
        Expect.due("4000 do", m.station.count(0), 4000);
        m = withForty();
        for (int i = 0; i < 4; i++) {
            m.feed(Master.frame(0xC9));
        }
        Expect.due("4000 bytes just fit", m.station.count(0), 4000);
        Expect.due("the last one", m.station.sent(3999), Master.reply(11)[9]);
        m.feed(Master.frame(0xC9));
        Expect.due("none beyond", m.station.take(), 4000);
        m.feed(Master.frame(0xC9));
        Expect.due("there is room again", m.take(), Master.reply(11));
    }

    private static void anAnswerWithoutRoomIsStillOne() {
        Master m = withForty();
        for (int i = 0; i < 4; i++) {
            m.feed(Master.frame(0xC9));
        }
        int[] direct = Master.control(1, 5, Master.relay(2, 3, 0));
        m.send(direct);
        Expect.due("it acts", m.station.relay(2), 3);
        Expect.due("without an answer", m.station.count(0), 4000);
        m.station.take();
        Expect.due("repeated: its answer", m.statuses(direct), 0);
        Expect.due("it acted once", m.station.count(5), 1);
        m = withForty();
        for (int i = 0; i < 4; i++) {
            m.feed(Master.frame(0xC9));
        }
        m.send(0xC7, 1, 60, 2, 6);
        m.send(0xC7, 0);
        Expect.due("its events wait to be confirmed", m.station.count(7), 0);
    }
}
