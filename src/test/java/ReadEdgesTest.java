import java.util.Arrays;

/** Section 2 of the document, the edges of READ and of what it reads: each sentence has a test. */
public final class ReadEdgesTest {
    private static final int[] BINARIES = {1, 2, 0, 0, 15, 1, 1, 1, 1, 1, 1, 1, 1, 1, 1, 1, 1, 1, 1, 1, 1};

    public static void main(String[] args) {
        Expect.holds("1 READ: for each object", ReadEdgesTest::noObjectAndTheMostObjects);
        Expect.holds("60 (decimal, as these all) 1", ReadEdgesTest::groupsAreDecimal);
        Expect.holds("60 2 to 60 4: events of class 1 to 3", ReadEdgesTest::threeClassesAreRead);
        Expect.holds("another one: no such object", ReadEdgesTest::allOthersAreUnknown);
        Expect.holds("a qualifier that is not 6", ReadEdgesTest::onlySixIsAQualifier);
        Expect.holds("or bytes missing: another fault", ReadEdgesTest::missingBytesAreAFault);
        Expect.holds("and nothing more is read", ReadEdgesTest::nothingIsReadBehindAFault);
        Expect.holds("static objects whole", ReadEdgesTest::binariesHaveRoomOrNot);
        Expect.holds("static objects whole", ReadEdgesTest::analogsHaveRoomOrNot);
        Expect.holds("as 1 2 and 30 2 behind", ReadEdgesTest::eachHasRoomByItself);
        Expect.holds("events one by one", ReadEdgesTest::eventsHaveRoomOrNot);
        Expect.holds("and then all behind it of that class", ReadEdgesTest::allBehindItAreLeftOut);
        Expect.holds("of that class", ReadEdgesTest::otherClassesMayHaveRoom);
        Expect.holds("what an answer has already is not in it twice", ReadEdgesTest::nothingIsInItTwice);
        Expect.holds("for each a byte: 01, and 80 (hexadecimal) if it is on", ReadEdgesTest::eachBinaryHasItsByte);
        Expect.holds("for each 01 and two bytes", ReadEdgesTest::eachAnalogHasItsBytes);
        Expect.holds("its number, 01 and two bytes", ReadEdgesTest::eventsHaveTheirBytes);
        Expect.holds("EVENTS, oldest first", ReadEdgesTest::theOldestStandsFirst);
        Expect.holds("a new one of these heads for each class, where the sort changes", ReadEdgesTest::headsBeginAnew);
        Expect.end();
    }

    /**
     * Class 1 has so many analog events, class 2 so many analog ones and then so many binary ones;
     * binary 7 is of class 3. The most that has room in an answer is 245 bytes of objects.
     */
    private static Master with(int analogsOfOne, int analogsOfTwo, int binariesOfTwo) {
        Master m = Master.of(40, 3);
        m.station.sort(true, 3, 1);
        m.station.sort(true, 5, 2);
        m.station.sort(false, 8, 2);
        m.station.sort(false, 7, 3);
        m.station.sort(true, 6, 3);
        for (int i = 1; i <= analogsOfOne; i++) {
            m.station.analog(3, i);
        }
        for (int i = 1; i <= analogsOfTwo; i++) {
            m.station.analog(5, i);
        }
        for (int i = 1; i <= binariesOfTwo; i++) {
            m.station.binary(8, i % 2 == 1);
        }
        return m;
    }

    /** How many bytes an answer has, and its first indications. */
    private static void dueAnswer(String what, Master m, int bytes, int indications, int... objects) {
        int[] answer = m.ask(Master.join(Master.bytes(0xC1, 1), objects));
        Expect.due(what + ": bytes", answer.length, bytes);
        Expect.due(what + ": indications", answer[2], indications);
        Expect.due(what + ": no fault", answer[3], 0);
    }

    private static int[] many(int objects, int... object) {
        int[] all = {0xC1, 1};
        for (int i = 0; i < objects; i++) {
            all = Master.join(all, object);
        }
        return all;
    }

    private static void noObjectAndTheMostObjects() {
        Expect.due("no object", Master.of(3, 3).ask(0xC1, 1), 0xC1, 0x81, 0x80, 0);
        int[] most = Master.join(many(81, 77, 7, 6), Master.bytes(1, 2, 6));
        Expect.due("82 objects are 248 bytes", most.length, 248);
        Expect.due("the last one is read", Master.of(3, 3).ask(most), Master.join(Master.bytes(0xC1, 0x81, 0x80, 2), BINARIES));
        int[] beyond = Master.join(most, Master.bytes(1));
        Expect.due("one byte more", Master.of(3, 3).ask(beyond), Master.join(Master.bytes(0xC1, 0x81, 0x80, 6), BINARIES));
    }

    private static void groupsAreDecimal() {
        Expect.due("60 1", Master.of(3, 3).ask(0xC1, 1, 0x3C, 1, 6).length, 4 + 21 + 53);
        Expect.due("30 2", Master.of(3, 3).ask(0xC1, 1, 0x1E, 2, 6).length, 4 + 53);
        Expect.due("not hexadecimal", Master.of(3, 3).ask(0xC1, 1, 0x60, 1, 6, 0x30, 2, 6), 0xC1, 0x81, 0x80, 2);
    }

    private static void threeClassesAreRead() {
        for (int c = 1; c <= 3; c++) {
            for (int variation = 2; variation <= 4; variation++) {
                Master m = Master.of(3, 3);
                m.station.sort(false, 4, c);
                m.station.binary(4, true);
                int[] objects = m.askObjects(0xC1, 1, 60, variation, 6);
                if (variation == c + 1) {
                    Expect.due("class " + c, objects, 2, 1, 0x17, 1, 4, 0x81);
                } else {
                    Expect.due("not class " + c, objects);
                }
            }
        }
    }

    private static boolean isKnown(int group, int variation) {
        boolean plain = (group == 1 || group == 30) && (variation == 0 || variation == 2);
        return plain || group == 60 && variation >= 1 && variation <= 4;
    }

    private static void allOthersAreUnknown() {
        for (int group = 0; group < 256; group++) {
            for (int from = 0; from < 256; from += 64) {
                int[] request = {0xC1, 1};
                for (int variation = from; variation < from + 64; variation++) {
                    if (!isKnown(group, variation)) {
                        request = Master.join(request, Master.bytes(group, variation, 6));
                    }
                }
                Expect.due("group " + group, Master.of(3, 3).ask(request), 0xC1, 0x81, 0x80, 2);
            }
        }
        int[][] edges = {{1, 1}, {1, 3}, {30, 1}, {30, 3}, {60, 0}, {60, 5}};
        for (int[] edge : edges) {
            Expect.due("by itself", Master.of(3, 3).ask(0xC1, 1, edge[0], edge[1], 6), 0xC1, 0x81, 0x80, 2);
            Expect.due("the next one is read", Master.of(3, 3).ask(0xC1, 1, edge[0], edge[1], 6, 1, 0, 6),
                    Master.join(Master.bytes(0xC1, 0x81, 0x80, 2), BINARIES));
        }
    }

    private static void onlySixIsAQualifier() {
        for (int qualifier = 0; qualifier < 256; qualifier++) {
            int[] answer = Master.of(3, 3).ask(0xC1, 1, 1, 2, qualifier);
            int[] want = Master.bytes(0xC1, 0x81, 0x80, 4);
            Expect.due("qualifier " + qualifier, answer,
                    qualifier == 6 ? Master.join(Master.bytes(0xC1, 0x81, 0x80, 0), BINARIES) : want);
        }
    }

    private static void missingBytesAreAFault() {
        int[] read = {0xC1, 1, 1, 2, 6, 30, 2, 6};
        for (int n = 2; n <= 8; n++) {
            Master m = Master.of(3, 3);
            // A whole one before leaves its bytes in the row: they are not this one's.
            m.send(0xC9, 1, 1, 2, 6, 30, 2, 6);
            int[] answer = m.ask(Arrays.copyOf(read, n));
            Expect.due(n + " bytes: faults", answer[3], n % 3 == 2 ? 0 : 4);
            Expect.due(n + " bytes: objects", answer.length, n < 5 ? 4 : n < 8 ? 25 : 78);
        }
    }

    private static void nothingIsReadBehindAFault() {
        Master m = with(1, 0, 0);
        Expect.due("behind a wrong qualifier", m.ask(0xC1, 1, 1, 2, 6, 30, 2, 7, 60, 2, 6),
                Master.join(Master.bytes(0xC1, 0x81, 0x82, 4), BINARIES));
        Expect.due("no events wait", m.station.count(7), 1);
        Expect.due("nor is an unknown one told", m.ask(0xC2, 1, 30, 2, 0, 99, 9, 6), 0xC2, 0x81, 0x82, 4);
    }

    private static void binariesHaveRoomOrNot() {
        // 4, 164, 4 + 56 and 21 bytes are 249.
        dueAnswer("just room", with(40, 14, 0), 249, 0x80, 60, 2, 6, 60, 3, 6, 1, 2, 6);
        // 4, 53, 164 and 8 bytes leave 20.
        dueAnswer("one byte too few", with(40, 1, 0), 229, 0x80, 30, 2, 6, 60, 2, 6, 60, 3, 6, 1, 2, 6);
        dueAnswer("none is put in part", with(40, 40, 0), 248, 0x84, 60, 2, 6, 60, 3, 6, 1, 2, 6);
    }

    private static void analogsHaveRoomOrNot() {
        // 4, 156, 36 and 53 bytes are 249.
        dueAnswer("just room", with(38, 8, 0), 249, 0x80, 60, 2, 6, 60, 3, 6, 30, 2, 6);
        // 4, 21, 164 and 8 bytes leave 52.
        dueAnswer("one byte too few", with(40, 1, 0), 197, 0x80, 1, 2, 6, 60, 2, 6, 60, 3, 6, 30, 2, 6);
        // 4, 164 and 4 + 40 bytes leave 37.
        dueAnswer("far too few", with(40, 10, 0), 212, 0x80, 60, 2, 6, 60, 3, 6, 30, 0, 6);
    }

    private static void eachHasRoomByItself() {
        // 4, 164 and 4 + 24 bytes leave 53: behind the binaries the analogs have no room.
        dueAnswer("the binaries alone", with(40, 6, 0), 217, 0x80, 60, 2, 6, 60, 3, 6, 60, 1, 6);
        // 4, 53, 164 and 8 bytes leave 20: the analogs stand there already.
        dueAnswer("neither", with(40, 1, 0), 229, 0x80, 30, 2, 6, 60, 2, 6, 60, 3, 6, 60, 1, 6);
        // 4, 128, 4 + 40 leave 73: both need 74, but each has room by itself.
        dueAnswer("one byte too few for both", with(31, 10, 0), 176 + 21, 0x80, 60, 2, 6, 60, 3, 6, 60, 1, 6);
        // 4, 124, 4 + 40 leave 77.
        dueAnswer("both", with(30, 10, 0), 172 + 74, 0x80, 60, 2, 6, 60, 3, 6, 60, 1, 6);
    }

    private static void eventsHaveRoomOrNot() {
        dueAnswer("an analog one, just room", with(40, 14, 0), 249, 0x80, 1, 2, 6, 60, 2, 6, 60, 3, 6);
        dueAnswer("no byte left for the next one", with(40, 15, 0), 249, 0x84, 1, 2, 6, 60, 2, 6, 60, 3, 6);
        // 4, 164 and 4 + 76 bytes leave one.
        dueAnswer("one byte for an analog one", with(40, 20, 0), 248, 0x84, 60, 2, 6, 60, 3, 6);
        dueAnswer("one byte for a binary one", with(40, 0, 39), 248, 0x84, 60, 2, 6, 60, 3, 6);
        dueAnswer("just that many binary ones", with(40, 0, 38), 248, 0x80, 60, 2, 6, 60, 3, 6);
        dueAnswer("a binary one, just room", with(40, 0, 28), 249, 0x80, 1, 2, 6, 60, 2, 6, 60, 3, 6);
        dueAnswer("no byte left for a binary one", with(40, 0, 29), 249, 0x84, 1, 2, 6, 60, 2, 6, 60, 3, 6);
        // 4, 21, 160 and 60 bytes leave 4: no head, but one more below the same head.
        dueAnswer("an analog one below its head", with(39, 15, 0), 249, 0x80, 1, 2, 6, 60, 2, 6, 60, 3, 6);
        Master m = with(39, 0, 0);
        for (int i = 1; i <= 8; i++) {
            m.station.analog(6, i);
        }
        // 4, 21, 53, 160 bytes leave 11: a head and one more, and 3 bytes for none.
        dueAnswer("three bytes for an analog one", m, 246, 0x88, 1, 2, 6, 30, 2, 6, 60, 2, 6, 60, 4, 6);
    }

    private static void allBehindItAreLeftOut() {
        Master m = with(40, 16, 1);
        m.station.analog(5, 100);
        m.station.binary(8, false);
        // 4, 164, 4 + 64 and 6 bytes leave 7: none for a head and an analog one (8), and the binary
        // one behind that would have room (6) is left out too.
        int[] answer = m.ask(0xC1, 1, 60, 2, 6, 60, 3, 6, 60, 3, 6);
        Expect.due("242 bytes", answer.length, 242);
        Expect.due("the last one that has room", Arrays.copyOfRange(answer, 236, 242), 2, 1, 0x17, 1, 8, 0x81);
        Expect.due("class 2 has some left", answer[2], 0x84);
        m.send(0xC1, 0);
        Expect.due("both stay", m.station.count(8), 2);
        Expect.due("the analog one first", m.station.event(2, 0, 2), 100);
    }

    private static void otherClassesMayHaveRoom() {
        Master m = with(40, 16, 1);
        m.station.analog(5, 100);
        m.station.binary(7, true);
        int[] answer = m.ask(0xC1, 1, 60, 2, 6, 60, 3, 6, 60, 4, 6);
        Expect.due("248 bytes", answer.length, 248);
        Expect.due("class 3 has room behind", Arrays.copyOfRange(answer, 242, 248), 2, 1, 0x17, 1, 7, 0x81);
        Expect.due("only class 2 has some left", answer[2], 0x84);
    }

    private static void nothingIsInItTwice() {
        int[] analogs = Master.of(3, 3).askObjects(0xC1, 1, 30, 2, 6);
        int[] both = Master.join(BINARIES, analogs);
        Expect.due("1 0 and 1 2", Master.of(3, 3).askObjects(0xC1, 1, 1, 0, 6, 1, 2, 6), BINARIES);
        Expect.due("30 0 and 30 2", Master.of(3, 3).askObjects(0xC1, 1, 30, 0, 6, 30, 2, 6), analogs);
        Expect.due("60 1 twice", Master.of(3, 3).askObjects(0xC1, 1, 60, 1, 6, 60, 1, 6), both);
        Expect.due("1 2 and 60 1", Master.of(3, 3).askObjects(0xC1, 1, 1, 2, 6, 60, 1, 6), both);
        Expect.due("60 1, 1 2 and 30 0", Master.of(3, 3).askObjects(0xC1, 1, 60, 1, 6, 1, 2, 6, 30, 0, 6), both);
        Expect.due("events 82 times", with(1, 0, 0).askObjects(many(82, 60, 2, 6)), 32, 2, 0x17, 1, 3, 1, 1, 0);
        Expect.due("no fault is told", with(1, 0, 0).ask(many(82, 60, 2, 6))[3], 0);
    }

    private static void eachBinaryHasItsByte() {
        for (int k = 0; k < 16; k++) {
            Master m = Master.of(3, 3);
            m.station.binary(k, true);
            int[] want = BINARIES.clone();
            want[5 + k] = 0x81;
            Expect.due("binary " + k, m.askObjects(0xC1, 1, 1, 2, 6), want);
            m.station.binary(k, false);
            Expect.due("off again", m.askObjects(0xC2, 1, 1, 2, 6), BINARIES);
        }
    }

    private static void eachAnalogHasItsBytes() {
        int[] values = {-32768, -32767, -256, -1, 1, 255, 256, 32766, 32767};
        for (int k = 0; k < 16; k++) {
            for (int value : values) {
                Master m = Master.of(3, 3);
                m.station.analog(k, value);
                int[] objects = m.askObjects(0xC1, 1, 30, 2, 6);
                int[] want = Arrays.copyOf(Master.bytes(30, 2, 0, 0, 15), 53);
                for (int i = 0; i < 16; i++) {
                    want[5 + 3 * i] = 1;
                }
                want[6 + 3 * k] = value & 0xFF;
                want[7 + 3 * k] = value >> 8 & 0xFF;
                Expect.due("analog " + k + " of " + value, objects, want);
            }
        }
    }

    private static void eventsHaveTheirBytes() {
        int[] values = {-32768, -1, 1, 255, 256, 32767};
        for (int value : values) {
            Master m = Master.of(3, 3);
            m.station.sort(true, 15, 1);
            m.station.analog(15, value);
            Expect.due("an event of " + value, m.askObjects(0xC1, 1, 60, 2, 6),
                    32, 2, 0x17, 1, 15, 1, value & 0xFF, value >> 8 & 0xFF);
        }
        Master m = Master.of(3, 3);
        m.station.sort(false, 15, 3);
        m.station.binary(15, true);
        m.station.binary(15, false);
        Expect.due("binary ones", m.askObjects(0xC1, 1, 60, 4, 6), 2, 1, 0x17, 2, 15, 0x81, 15, 1);
    }

    private static void theOldestStandsFirst() {
        Master m = Master.of(3, 3);
        m.station.sort(true, 1, 1);
        for (int i = 1; i <= 5; i++) {
            m.station.analog(1, i);
        }
        Expect.due("of the three that stay", m.askObjects(0xC1, 1, 60, 2, 6),
                32, 2, 0x17, 3, 1, 1, 3, 0, 1, 1, 4, 0, 1, 1, 5, 0);
        Expect.due("whole forty below one head", with(40, 0, 0).askObjects(0xC1, 1, 60, 2, 6)[3], 40);
    }

    private static void headsBeginAnew() {
        Master m = Master.of(9, 3);
        m.station.sort(false, 0, 1);
        m.station.sort(true, 0, 1);
        m.station.sort(false, 1, 2);
        m.station.binary(0, true);
        m.station.binary(0, false);
        m.station.analog(0, 1);
        m.station.binary(0, true);
        m.station.binary(1, true);
        Expect.due("where the sort changes, and for each class", m.askObjects(0xC1, 1, 60, 2, 6, 60, 3, 6),
                2, 1, 0x17, 2, 0, 0x81, 0, 1, 32, 2, 0x17, 1, 0, 1, 1, 0, 2, 1, 0x17, 1, 0, 0x81,
                2, 1, 0x17, 1, 1, 0x81);
    }
}
