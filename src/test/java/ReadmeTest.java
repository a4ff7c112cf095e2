/** The examples of README.md, with what they say of the answers. */
public final class ReadmeTest {
    public static void main(String[] args) {
        OutStation x = new OutStation(4, 3, 10, 100);
        changeAPoint(x);
        resetTheLink(x);
        readAndConfirm(x);
        selectAndOperate(x);
        Expect.end();
    }

    private static void changeAPoint(OutStation x) {
        Expect.due("sort", x.sort(false, 2, 1), true);
        Expect.due("binary", x.binary(2, true), true);
        Expect.due("one event of class 1", x.count(7), 1);
        Expect.due("its number", x.event(1, 0, 1), 2);
    }

    private static void resetTheLink(OutStation x) {
        Expect.due("a reset", x.feed(0x056405C0, 0x04000300, 0xF9560000, 0, 0, 10), 1);
        Expect.due("bytes sent", x.count(0), 10);
        Expect.due("the first one", x.sent(0), 0x05);
        Expect.due("taken", x.take(), 10);
        Expect.due("gone", x.count(0), 0);
    }

    private static void readAndConfirm(OutStation x) {
        Expect.due("a READ", x.feed(0x05640BC4, 0x04000300, 0xE42BC0C1, 0x013C0206, 0x52C30000, 18), 1);
        Expect.due("bytes of its answer", x.count(0), 23);
        Expect.due("its control byte", x.sent(11), 0xE1);
        Expect.due("it is RESTARTED", x.sent(13), 0x80);
        Expect.due("the binary's number", x.sent(19), 2);
        Expect.due("the binary is on", x.sent(20), 0x81);
        Expect.due("kept till it is confirmed", x.count(7), 1);
        x.take();
        Expect.due("a CONFIRM", x.feed(0x056408C4, 0x04000300, 0xB4B8C0C1, 0x007D3D00, 0, 15), 1);
        Expect.due("gone when it is confirmed", x.count(7), 0);
        Expect.due("no answer", x.take(), 0);
    }

    private static void selectAndOperate(OutStation x) {
        x.feed(0x056418C4, 0x04000300, 0x75C0C4C4, 0x030C0117, 0x01020401, 20);
        Expect.due("a SELECT", x.feed(0x05000000, 0x06008F14, 0x000000FF, 0xFF000000, 0, 13), 1);
        Expect.due("not yet", x.relay(2), OutStation.NONE);
        x.tick(100);
        x.feed(0x056418C4, 0x04000300, 0x75C0C5C5, 0x040C0117, 0x01020401, 20);
        Expect.due("an OPERATE", x.feed(0x05000000, 0x0600CB8F, 0x000000FF, 0xFF000000, 0, 13), 1);
        Expect.due("now it is off", x.relay(2), 4);
        Expect.due("acts", x.count(5), 1);
    }
}
