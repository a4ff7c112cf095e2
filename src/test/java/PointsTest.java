/** Promises 4 to 7 and 11: binaries, analogs, their classes and bands, and the events they make. */
public final class PointsTest {
    public static void main(String[] args) {
        binariesChange();
        analogsMakeEvents();
        classesCount();
        bandsCount();
        eventsAreKept();
        wrongNumbersThrow();
        Expect.end();
    }

    private static void dueEvent(OutStation x, int c, int k, int... want) {
        for (int what = 0; what < 3; what++) {
            Expect.due("event(" + c + ", " + k + ", " + what + ")", x.event(c, k, what), want[what]);
        }
    }

    private static void binariesChange() {
        OutStation x = new OutStation(4, 3, 5, 5);
        Expect.due("off stays off", x.binary(3, false), false);
        Expect.due("it goes on", x.binary(3, true), true);
        Expect.due("on stays on", x.binary(3, true), false);
        Expect.due("class 0 has no events", x.count(7) + x.count(8) + x.count(9), 0);
        x.sort(false, 3, 2);
        Expect.due("on stays on", x.binary(3, true), false);
        Expect.due("no event without a change", x.count(8), 0);
        Expect.due("it goes off", x.binary(3, false), true);
        Expect.due("it goes on again", x.binary(3, true), true);
        Expect.due("the first binary", x.binary(0, true), true);
        Expect.due("the last binary", x.binary(15, true), true);
        Expect.due("two events of class 2", x.count(8), 2);
        dueEvent(x, 2, 0, 0, 3, 0);
        dueEvent(x, 2, 1, 0, 3, 1);
        int[] objects = new Master(x).askObjects(0xC0, 1, 1, 0, 6);
        Expect.due("the binaries", objects, 1, 2, 0, 0, 15, 0x81, 1, 1, 0x81, 1, 1, 1, 1, 1, 1, 1, 1, 1, 1, 1, 0x81);
    }

    private static void analogsMakeEvents() {
        OutStation x = new OutStation(4, 3, 5, 5);
        Expect.due("class 0 makes none", x.analog(2, 500), false);
        x.sort(true, 2, 3);
        Expect.due("0 is as far as the band from 0 at first", x.analog(2, 0), false);
        Expect.due("1 is farther", x.analog(2, 1), true);
        Expect.due("the same again", x.analog(2, 1), false);
        x.band(2, 10);
        Expect.due("as far as the band, up", x.analog(2, 11), false);
        Expect.due("as far as the band, down", x.analog(2, -9), false);
        Expect.due("farther, down", x.analog(2, -10), true);
        Expect.due("back by the band", x.analog(2, 0), false);
        Expect.due("farther, up", x.analog(2, 1), true);
        dueEvent(x, 3, 0, 1, 2, 1);
        dueEvent(x, 3, 1, 1, 2, -10);
        dueEvent(x, 3, 2, 1, 2, 1);
        Expect.due("a value without an event", x.analog(2, -2), false);
        int[] objects = new Master(x).askObjects(0xC0, 1, 30, 0, 6);
        Expect.due("it is the value all the same", objects[5 + 6 + 1] | objects[5 + 6 + 2] << 8, 0xFFFE);
        x.sort(true, 2, 0);
        Expect.due("class 0 again", x.analog(2, 1000), false);
        x.sort(true, 2, 1);
        Expect.due("far from the latest event, not from the latest value", x.analog(2, 1000), true);
        x.analog(0, -32768);
        x.analog(15, 32767);
        int[] edges = new Master(x).askObjects(0xC0, 1, 30, 2, 6);
        Expect.due("the lowest value", edges[5] | edges[6] << 8 | edges[7] << 16, 0x800001);
        Expect.due("the highest value", edges[50] | edges[51] << 8 | edges[52] << 16, 0x7FFF01);
    }

    private static void classesCount() {
        OutStation x = new OutStation(4, 3, 5, 5);
        Expect.due("class 0 is the first", x.sort(false, 1, 0), false);
        Expect.due("class 0 is the first of analogs", x.sort(true, 1, 0), false);
        Expect.due("another class", x.sort(false, 1, 3), true);
        Expect.due("the same class", x.sort(false, 1, 3), false);
        Expect.due("an analog has its own", x.sort(true, 1, 3), true);
        x.binary(1, true);
        Expect.due("moved", x.sort(false, 1, 1), true);
        Expect.due("the event stays in its class", x.count(9), 1);
        x.binary(1, false);
        Expect.due("the next one is in the new class", x.count(7), 1);
        Expect.due("back to none", x.sort(false, 1, 0), true);
        x.binary(1, true);
        Expect.due("no more events", x.count(7) + x.count(8) + x.count(9), 2);
        Expect.due("the first and the last point", x.sort(false, 0, 2) && x.sort(true, 15, 2), true);
    }

    private static void bandsCount() {
        OutStation x = new OutStation(4, 3, 5, 5);
        x.sort(true, 0, 1);
        x.sort(true, 1, 1);
        x.band(0, 65535);
        Expect.due("the widest band", x.analog(0, 32767) || x.analog(0, -32768), false);
        x.band(0, 32767);
        Expect.due("32768 from 0 with 32767", x.analog(0, -32768), true);
        x.band(0, 65534);
        Expect.due("65535 with 65534", x.analog(0, 32767), true);
        x.band(0, 65535);
        Expect.due("65535 with 65535", x.analog(0, -32768), false);
        Expect.due("another one has band 0", x.analog(1, 1), true);
        x.band(0, 0);
        Expect.due("a band is looked at with a value, not before", x.count(7), 3);
        Expect.due("band 0", x.analog(0, 32766), true);
    }

    private static void eventsAreKept() {
        OutStation x = new OutStation(4, 3, 3, 5);
        x.sort(false, 4, 1);
        x.sort(true, 9, 1);
        x.sort(false, 5, 2);
        x.binary(4, true);
        x.analog(9, -7);
        x.binary(4, false);
        x.binary(5, true);
        Expect.due("nothing is lost", x.count(11), 0);
        dueEvent(x, 1, 0, 0, 4, 1);
        dueEvent(x, 1, 1, 1, 9, -7);
        dueEvent(x, 1, 2, 0, 4, 0);
        Expect.due("a fourth event", x.analog(9, 300), true);
        Expect.due("one is lost", x.count(11), 1);
        Expect.due("three stay", x.count(7), 3);
        dueEvent(x, 1, 0, 1, 9, -7);
        dueEvent(x, 1, 1, 0, 4, 0);
        dueEvent(x, 1, 2, 1, 9, 300);
        dueEvent(x, 2, 0, 0, 5, 1);
        Expect.dueNoPlace("event(1, 3, 0)", () -> x.event(1, 3, 0));
        Expect.dueNoPlace("event(1, -1, 0)", () -> x.event(1, -1, 0));
        Expect.dueNoPlace("event(2, 1, 0)", () -> x.event(2, 1, 0));
        Expect.dueNoPlace("event(3, 0, 0)", () -> x.event(3, 0, 0));
        Expect.dueNoPlace("event(0, 0, 0)", () -> x.event(0, 0, 0));
        Expect.dueNoPlace("event(4, 0, 0)", () -> x.event(4, 0, 0));
        Expect.dueNoPlace("event(-1, 0, 0)", () -> x.event(-1, 0, 0));
        Expect.dueNoPlace("event(1, 0, 3)", () -> x.event(1, 0, 3));
        Expect.dueNoPlace("event(1, 0, -1)", () -> x.event(1, 0, -1));
    }

    private static void wrongNumbersThrow() {
        OutStation x = new OutStation(4, 3, 3, 5);
        x.sort(true, 0, 1);
        int[] places = {-1, 16, Integer.MIN_VALUE, Integer.MAX_VALUE};
        for (int k : places) {
            Expect.dueNoPlace("binary(" + k + ")", () -> x.binary(k, true));
            Expect.dueNoPlace("analog(" + k + ")", () -> x.analog(k, 1));
            Expect.dueNoPlace("analog(" + k + ") with a wrong value", () -> x.analog(k, 40000));
            Expect.dueNoPlace("sort of binary " + k, () -> x.sort(false, k, 1));
            Expect.dueNoPlace("sort of analog " + k, () -> x.sort(true, k, 1));
            Expect.dueNoPlace("band(" + k + ")", () -> x.band(k, 1));
            Expect.dueNoPlace("band(" + k + ") with a wrong value", () -> x.band(k, -1));
        }
        Expect.dueNoNumber("analog(0, 32768)", () -> x.analog(0, 32768));
        Expect.dueNoNumber("analog(0, -32769)", () -> x.analog(0, -32769));
        Expect.dueNoNumber("band(0, -1)", () -> x.band(0, -1));
        Expect.dueNoNumber("band(0, 65536)", () -> x.band(0, 65536));
        Expect.dueNoPlace("sort to class 4", () -> x.sort(true, 0, 4));
        Expect.dueNoPlace("sort to class -1", () -> x.sort(true, 0, -1));
        Expect.due("nothing changed", x.count(7) + x.count(11), 0);
        Expect.due("the class is the same", x.sort(true, 0, 1), false);
        Expect.due("the band is the same", x.analog(0, 1), true);
    }
}
