import java.util.Arrays;

/** Promise 2: READ and WRITE, what their answers have and what they indicate. */
public final class ReadTest {
    private static final int[] HEAD = {0xC1, 0x81, 0x80, 0};

    public static void main(String[] args) {
        staticsAreRead();
        nothingIsReadTwice();
        unknownOnesAreTold();
        faultsEndReading();
        eventsAreRead();
        headsChangeWithSortAndClass();
        eventsMayFindNoRoom();
        staticsMayFindNoRoom();
        laterClassesMayFindRoom();
        theLastByteHasRoom();
        restartedIsCleared();
        wrongWritesAreFaults();
        otherFunctionsAreUnknown();
        Expect.end();
    }

    private static int[] binaries(int... on) {
        int[] bytes = {1, 2, 0, 0, 15, 1, 1, 1, 1, 1, 1, 1, 1, 1, 1, 1, 1, 1, 1, 1, 1};
        for (int k : on) {
            bytes[5 + k] = 0x81;
        }
        return bytes;
    }

    private static int[] analogs(int k, int value) {
        int[] bytes = Arrays.copyOf(Master.bytes(30, 2, 0, 0, 15), 5 + 48);
        for (int i = 0; i < 16; i++) {
            bytes[5 + 3 * i] = 1;
        }
        bytes[6 + 3 * k] = value & 0xFF;
        bytes[7 + 3 * k] = value >> 8 & 0xFF;
        return bytes;
    }

    private static void staticsAreRead() {
        Master m = Master.of(3, 3);
        m.station.binary(1, true);
        m.station.analog(14, -2);
        int[] b = binaries(1);
        int[] a = analogs(14, -2);
        Expect.due("nothing", m.ask(0xC1, 1), HEAD);
        Expect.due("1 0", m.ask(0xC1, 1, 1, 0, 6), Master.join(HEAD, b));
        Expect.due("1 2", m.ask(0xC1, 1, 1, 2, 6), Master.join(HEAD, b));
        Expect.due("30 0", m.ask(0xC1, 1, 30, 0, 6), Master.join(HEAD, a));
        Expect.due("30 2", m.ask(0xC1, 1, 30, 2, 6), Master.join(HEAD, a));
        Expect.due("60 1", m.askObjects(0xC1, 1, 60, 1, 6), Master.join(b, a));
    }

    private static void nothingIsReadTwice() {
        Master m = Master.of(3, 3);
        int[] b = binaries();
        int[] a = analogs(0, 0);
        Expect.due("1 2 twice", m.askObjects(0xC1, 1, 1, 2, 6, 1, 0, 6), b);
        Expect.due("the order is the request's", m.askObjects(0xC1, 1, 30, 2, 6, 1, 2, 6, 30, 0, 6), Master.join(a, b));
        Expect.due("30 2, then 60 1", m.askObjects(0xC1, 1, 30, 2, 6, 60, 1, 6), Master.join(a, b));
        m.station.sort(false, 0, 1);
        m.station.binary(0, true);
        Expect.due("events twice", m.askObjects(0xC1, 1, 60, 2, 6, 60, 2, 6), 2, 1, 0x17, 1, 0, 0x81);
    }

    private static void unknownOnesAreTold() {
        int[][] unknown = {{1, 1}, {1, 3}, {30, 1}, {30, 3}, {60, 0}, {60, 5}, {2, 1}, {32, 2}, {0, 0}, {255, 255}, {12, 1},
            {80, 1}, {0x60, 1}, {0x30, 2}};
        for (int[] pair : unknown) {
            Master m = Master.of(3, 3);
            Expect.due("no such object", m.ask(0xC1, 1, pair[0], pair[1], 6), 0xC1, 0x81, 0x80, 2);
            Expect.due("the next one is read", m.ask(0xC1, 1, pair[0], pair[1], 6, 1, 2, 6),
                    Master.join(Master.bytes(0xC1, 0x81, 0x80, 2), binaries()));
        }
    }

    private static void faultsEndReading() {
        int[][] faulty = {{1, 2, 7}, {1, 2, 0}, {99, 9, 7}, {1}, {1, 2}, {60, 2, 0x17}};
        for (int[] object : faulty) {
            Master m = Master.of(3, 3);
            int[] ask = Master.join(Master.bytes(0xC1, 1, 1, 2, 6), object);
            Expect.due("another fault behind 1 2", m.ask(ask), Master.join(Master.bytes(0xC1, 0x81, 0x80, 4), binaries()));
            if (object.length == 3) {
                int[] more = Master.join(Master.bytes(0xC1, 1), object, Master.bytes(30, 2, 6));
                Expect.due("nothing more is read", m.ask(more), 0xC1, 0x81, 0x80, 4);
            }
        }
        Master m = Master.of(3, 3);
        Expect.due("both faults", m.askHead(0xC1, 1, 9, 9, 6, 1, 2, 5), 0xC1, 0x81, 0x80, 6);
    }

    private static void eventsAreRead() {
        Master m = Master.of(5, 3);
        m.station.sort(false, 7, 2);
        m.station.sort(true, 15, 3);
        m.station.binary(7, true);
        m.station.binary(7, false);
        m.station.analog(15, -300);
        Expect.due("classes 2 and 3 have events", m.ask(0xC1, 1), 0xC1, 0x81, 0x8C, 0);
        Expect.due("class 1 has none", m.ask(0xC2, 1, 60, 2, 6), 0xC2, 0x81, 0x8C, 0);
        Expect.due("class 2", m.ask(0xC3, 1, 60, 3, 6), 0xE3, 0x81, 0x88, 0, 2, 1, 0x17, 2, 7, 0x81, 7, 1);
        Expect.due("class 3", m.ask(0xC4, 1, 60, 4, 6), 0xE4, 0x81, 0x84, 0, 32, 2, 0x17, 1, 15, 1, 0xD4, 0xFE);
        Expect.due("both, as they are asked for", m.ask(0xC5, 1, 60, 4, 6, 60, 3, 6), 0xE5, 0x81, 0x80, 0,
                32, 2, 0x17, 1, 15, 1, 0xD4, 0xFE, 2, 1, 0x17, 2, 7, 0x81, 7, 1);
        Expect.due("without a confirm they stay", m.station.count(8) + m.station.count(9), 3);
        Expect.due("a static object waits for nothing", m.askHead(0xC6, 1, 1, 2, 6), 0xC6, 0x81, 0x8C, 0);
    }

    private static void headsChangeWithSortAndClass() {
        Master m = Master.of(9, 3);
        m.station.sort(false, 0, 1);
        m.station.sort(true, 1, 1);
        m.station.sort(false, 2, 2);
        m.station.binary(0, true);
        m.station.analog(1, 5);
        m.station.analog(1, 6);
        m.station.binary(0, false);
        m.station.binary(2, true);
        Expect.due("a new head for each sort and class", m.ask(0xC5, 1, 60, 2, 6, 60, 3, 6, 60, 4, 6),
                0xE5, 0x81, 0x80, 0, 2, 1, 0x17, 1, 0, 0x81, 32, 2, 0x17, 2, 1, 1, 5, 0, 1, 1, 6, 0,
                2, 1, 0x17, 1, 0, 1, 2, 1, 0x17, 1, 2, 0x81);
    }

    /** An outstation with so many analog events in class 1. */
    private static Master withAnalogEvents(int n) {
        Master m = Master.of(40, 3);
        m.station.sort(true, 3, 1);
        for (int i = 1; i <= n; i++) {
            m.station.analog(3, i);
        }
        return m;
    }

    private static void eventsMayFindNoRoom() {
        Master m = withAnalogEvents(40);
        int[] answer = m.ask(0xC1, 1, 60, 1, 6, 60, 2, 6);
        // 4 and 21 and 53 are 78 bytes; a head and 40 events are 164: 242 in all.
        Expect.due("all of them have room", answer.length, 242);
        Expect.due("none is left", answer[2], 0x80);
        for (int fill = 1; fill <= 4; fill++) {
            Master n = withAnalogEvents(40);
            n.station.sort(false, 0, 2);
            for (int i = 0; i < fill; i++) {
                n.station.binary(0, i % 2 == 0);
            }
            int[] full = n.ask(0xC1, 1, 60, 3, 6, 60, 1, 6, 60, 2, 6);
            int room = 249 - (4 + 4 + 2 * fill + 74 + 4);
            int fits = Math.min(40, room / 4);
            Expect.due("events that fit", full.length, 249 - room + 4 * fits);
            Expect.due("their number stands in the head", full[4 + 4 + 2 * fill + 74 + 3], fits);
            Expect.due("class 1 has some left", full[2], fits == 40 ? 0x80 : 0x82);
            n.send(0xC1, 0);
            Expect.due("those that were in it go", n.station.count(7), 40 - fits);
            Expect.due("the oldest one stays that was not", fits == 40 || n.station.event(1, 0, 2) == fits + 1, true);
        }
    }

    private static void staticsMayFindNoRoom() {
        Master m = withAnalogEvents(40);
        m.station.sort(true, 5, 2);
        for (int i = 1; i <= 7; i++) {
            m.station.analog(5, i);
        }
        // 4, 164 and 32 bytes leave 49: the binaries have room, the analogs have none.
        int[] answer = m.ask(0xC1, 1, 60, 2, 6, 60, 3, 6, 60, 1, 6, 30, 2, 6);
        Expect.due("the binaries stand behind", Arrays.copyOfRange(answer, 200, answer.length), binaries());
        Expect.due("no fault", answer[3], 0);
        m = withAnalogEvents(38);
        m.station.sort(true, 5, 2);
        for (int i = 1; i <= 8; i++) {
            m.station.analog(5, i);
        }
        // 4, 156 and 36 bytes leave 53: just the room that analogs need.
        answer = m.ask(0xC1, 1, 60, 2, 6, 60, 3, 6, 30, 2, 6, 1, 2, 6);
        Expect.due("249 bytes", answer.length, 249);
        int[] want = analogs(3, 38);
        want[6 + 15] = 8;
        Expect.due("the analogs stand behind", Arrays.copyOfRange(answer, 196, 249), want);
        m = withAnalogEvents(40);
        m.station.sort(true, 5, 2);
        for (int i = 1; i <= 40; i++) {
            m.station.analog(5, i);
        }
        answer = m.ask(0xC1, 1, 60, 2, 6, 60, 3, 6, 1, 2, 6);
        Expect.due("events and no room for binaries", answer.length, 4 + 164 + 4 + 76);
        Expect.due("class 2 has some left", answer[2], 0x84);
    }

    /** Class 2 has so many analog events more; binary 8 is of class 2, binary 7 of class 3. */
    private static Master withTwoClasses(int ofOne, int ofTwo) {
        Master m = withAnalogEvents(ofOne);
        m.station.sort(true, 5, 2);
        m.station.sort(false, 8, 2);
        m.station.sort(false, 7, 3);
        for (int i = 1; i <= ofTwo; i++) {
            m.station.analog(5, i);
        }
        return m;
    }

    private static void laterClassesMayFindRoom() {
        Master m = withTwoClasses(40, 16);
        m.station.binary(8, true);
        m.station.analog(5, 100);
        m.station.binary(8, false);
        m.station.binary(7, true);
        // 4, 164 and 4 + 64 leave 13; 6 for a binary leave 7: the analog of class 2 (8) is left out
        // and all behind it, but the binary of class 3 (6) has room.
        int[] answer = m.ask(0xC1, 1, 60, 2, 6, 60, 3, 6, 60, 4, 6);
        Expect.due("248 bytes", answer.length, 248);
        Expect.due("class 2 has some left", answer[2], 0x84);
        Expect.due("the last event is of class 3", Arrays.copyOfRange(answer, 236, 248),
                2, 1, 0x17, 1, 8, 0x81, 2, 1, 0x17, 1, 7, 0x81);
        m = withTwoClasses(40, 17);
        m.station.binary(8, true);
        m.station.binary(7, true);
        // 4, 164 and 4 + 68 leave 9; 6 for a binary leave 3 for nothing.
        answer = m.ask(0xC1, 1, 60, 2, 6, 60, 3, 6, 60, 4, 6);
        Expect.due("246 bytes", answer.length, 246);
        Expect.due("class 3 has some left", answer[2], 0x88);
        m = withTwoClasses(39, 20);
        m.station.binary(8, true);
        m.station.binary(7, true);
        // 4, 160 and 4 + 80 are 248: one byte is left, and the binaries behind are left out.
        answer = m.ask(0xC1, 1, 60, 2, 6, 60, 3, 6, 60, 4, 6, 60, 3, 6);
        Expect.due("248 bytes again", answer.length, 248);
        Expect.due("both have some left", answer[2], 0x8C);
    }

    private static void dueFull(String what, Master m, int left, int... objects) {
        int[] answer = m.ask(Master.join(Master.bytes(0xC1, 1), objects));
        Expect.due(what + ": bytes", answer.length, 249);
        Expect.due(what + ": classes with some left", answer[2], 0x80 | left);
    }

    private static void changeEight(Master m, int times) {
        for (int i = 0; i < times; i++) {
            m.station.binary(8, i % 2 == 0);
        }
    }

    /** 4, 164 for class 1 and 21 for the binaries leave 60 bytes, whatever stands first. */
    private static void theLastByteHasRoom() {
        dueFull("binaries", withTwoClasses(40, 14), 0, 60, 2, 6, 60, 3, 6, 1, 2, 6);
        dueFull("an analog event", withTwoClasses(40, 14), 0, 1, 2, 6, 60, 2, 6, 60, 3, 6);
        dueFull("an analog event too many", withTwoClasses(40, 15), 4, 1, 2, 6, 60, 2, 6, 60, 3, 6);
        Master m = withTwoClasses(40, 0);
        changeEight(m, 28);
        dueFull("a binary event", m, 0, 1, 2, 6, 60, 2, 6, 60, 3, 6);
        m = withTwoClasses(40, 0);
        changeEight(m, 29);
        dueFull("a binary event too many", m, 4, 1, 2, 6, 60, 2, 6, 60, 3, 6);
        m = withTwoClasses(40, 0);
        changeEight(m, 25);
        m.station.binary(7, true);
        dueFull("a head and a binary event", m, 0, 1, 2, 6, 60, 2, 6, 60, 3, 6, 60, 4, 6);
        m = withTwoClasses(40, 12);
        m.station.sort(true, 6, 3);
        m.station.analog(6, 1);
        dueFull("a head and an analog event", m, 0, 1, 2, 6, 60, 2, 6, 60, 3, 6, 60, 4, 6);
    }

    private static void restartedIsCleared() {
        Master m = Master.of(3, 3);
        Expect.due("restarted", m.station.count(10), 1);
        Expect.due("the answer shows it as it is then", m.ask(0xC7, 2, 80, 1, 0, 7, 7, 0), 0xC7, 0x81, 0, 0);
        Expect.due("cleared", m.station.count(10), 0);
        Expect.due("no longer indicated", m.ask(0xC8, 1), 0xC8, 0x81, 0, 0);
        Expect.due("cleared again", m.ask(0xC9, 2, 80, 1, 0, 7, 7, 0), 0xC9, 0x81, 0, 0);
    }

    private static void wrongWritesAreFaults() {
        int[][] wrong = {{}, {80}, {80, 1, 0, 7, 7}, {80, 1, 0, 7, 7, 0, 0}, {81, 1, 0, 7, 7, 0}, {80, 2, 0, 7, 7, 0},
            {80, 1, 1, 7, 7, 0}, {80, 1, 0, 6, 7, 0}, {80, 1, 0, 7, 6, 0}, {80, 1, 0, 7, 7, 1}, {0x80, 1, 0, 7, 7, 0}};
        Master m = Master.of(3, 3);
        for (int[] rest : wrong) {
            Expect.due("a wrong write", m.ask(Master.join(Master.bytes(0xC7, 2), rest)), 0xC7, 0x81, 0x80, 4);
            Expect.due("still restarted", m.station.count(10), 1);
        }
    }

    private static void otherFunctionsAreUnknown() {
        int[] functions = {6, 7, 13, 20, 21, 0x81, 0x82, 255};
        Master m = Master.of(3, 3);
        for (int function : functions) {
            Expect.due("no such function", m.ask(0xC2, function, 1, 2, 6), 0xC2, 0x81, 0x80, 1);
        }
    }
}
