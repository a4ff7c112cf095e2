import java.util.Arrays;

/** Section 2 of the document, the edges of SELECT, OPERATE and DIRECT: each sentence has a test. */
public final class RelayEdgesTest {
    private static final int SELECT = 3;
    private static final int OPERATE = 4;
    private static final int DIRECT = 5;

    public static void main(String[] args) {
        Expect.holds("a number N of relays (1 to 8)", RelayEdgesTest::oneToEightRelays);
        Expect.holds("and N times: a relay, and eleven bytes", RelayEdgesTest::noByteMoreOrLess);
        Expect.holds("12, 1, 17 (hexadecimal)", RelayEdgesTest::theHeadIsJustSo);
        Expect.holds("just so, else another fault and nothing is done", RelayEdgesTest::wrongFormsDoNothing);
        Expect.holds("The answer has the same bytes but for the statuses.", RelayEdgesTest::answersHaveTheSameBytes);
        Expect.holds("4 for a relay beyond 7", RelayEdgesTest::relaysBeyondSeven);
        Expect.holds("or a code that is not 3 (on) or 4 (off)", RelayEdgesTest::onlyTwoCodes);
        Expect.holds("each by itself", RelayEdgesTest::eachByItself);
        Expect.holds("for OPERATE 2 for all, if nothing is selected", RelayEdgesTest::nothingIsSelected);
        Expect.holds("or other bytes are (behind the function)", RelayEdgesTest::everyByteIsCompared);
        Expect.holds("the sequence is not one more (modulo 16) than the select's", RelayEdgesTest::sequencesGoRound);
        Expect.holds("1 for all, if more ticks than the TIMEOUT have been since", RelayEdgesTest::timeoutsEndAtTheirTick);
        Expect.holds("1 for all ... have been since", RelayEdgesTest::ticksCountFromTheSelect);
        Expect.holds("2 for all, if ...; 1 for all, if", RelayEdgesTest::notSelectedComesBeforeLate);
        Expect.holds("SELECT is kept if all are 0", RelayEdgesTest::onlyWholeSelectsAreKept);
        Expect.holds("OPERATE forgets it", RelayEdgesTest::everyOperateForgets);
        Expect.holds("what was selected is forgotten unless it is function 4", RelayEdgesTest::allOthersForget);
        Expect.holds("a relay with status 0 ACTS, in order", RelayEdgesTest::relaysActInOrder);
        Expect.holds("relays that are selected first, then operated, each once", RelayEdgesTest::eachActsOnce);
        Expect.holds("The code with which a relay acted the latest time; NONE.", RelayEdgesTest::latestCodesAreKept);
        Expect.end();
    }

    private static int[][] relays(int n) {
        int[][] list = new int[n][];
        for (int i = 0; i < n; i++) {
            list[i] = Master.relay(i % 8, 3 + i % 2, 0);
        }
        return list;
    }

    private static int[] one(int sequence, int function) {
        return Master.control(sequence, function, Master.relay(2, 3, 0));
    }

    private static int[] all(int n, int status) {
        int[] list = new int[n];
        Arrays.fill(list, status);
        return list;
    }

    private static void dueFault(int... request) {
        Master m = Master.of(3, 10);
        Expect.due("another fault", m.ask(request), 0xC1, 0x81, 0x80, 4);
        Expect.due("no acts", m.station.count(5), 0);
    }

    private static void oneToEightRelays() {
        for (int n = 1; n <= 8; n++) {
            Master m = Master.of(3, 10);
            Expect.due(n + " selected", m.statuses(Master.control(1, SELECT, relays(n))), all(n, 0));
            Expect.due(n + " operated", m.statuses(Master.control(2, OPERATE, relays(n))), all(n, 0));
            Expect.due("acts", m.station.count(5), n);
            m = Master.of(3, 10);
            Expect.due(n + " directly", m.statuses(Master.control(3, DIRECT, relays(n))), all(n, 0));
            Expect.due("acts", m.station.count(5), n);
        }
        for (int function = SELECT; function <= DIRECT; function++) {
            dueFault(Master.control(1, function));
            dueFault(Master.control(1, function, relays(9)));
            dueFault(Master.control(1, function, relays(20)));
        }
    }

    private static void noByteMoreOrLess() {
        for (int function = SELECT; function <= DIRECT; function++) {
            for (int n = 1; n <= 8; n++) {
                int[] right = Master.control(1, function, relays(n));
                int[] offs = {-12, -11, -1, 1, 11, 12};
                for (int off : offs) {
                    dueFault(Arrays.copyOf(right, right.length + off));
                }
            }
        }
        for (int n = 2; n < 6; n++) {
            dueFault(Arrays.copyOf(one(1, DIRECT), n));
        }
        Master m = Master.of(3, 10);
        m.send(one(9, DIRECT));
        // The same but for its last byte, which still stands in the row from before.
        int[] cut = Arrays.copyOf(one(1, DIRECT), 17);
        Expect.due("a byte that is not its own", m.ask(cut), 0xC1, 0x81, 0x80, 4);
    }

    private static void theHeadIsJustSo() {
        for (int function = SELECT; function <= DIRECT; function++) {
            for (int at = 2; at <= 5; at++) {
                for (int bit = 0; bit < 8; bit++) {
                    int[] request = one(1, function);
                    request[at] ^= 1 << bit;
                    dueFault(request);
                }
            }
        }
        int[] decimal = one(1, DIRECT);
        decimal[4] = 17;
        dueFault(decimal);
        int[] hexadecimal = one(1, DIRECT);
        hexadecimal[2] = 0x12;
        dueFault(hexadecimal);
    }

    private static void wrongFormsDoNothing() {
        int[] direct = Master.control(1, DIRECT, relays(3));
        Master m = Master.of(3, 10);
        m.send(Arrays.copyOf(direct, direct.length - 1));
        for (int k = 0; k < 8; k++) {
            Expect.due("not even the first ones act", m.station.relay(k), OutStation.NONE);
        }
        int[] select = Master.control(2, SELECT, relays(1));
        m.send(Arrays.copyOf(select, select.length + 1));
        Expect.due("nothing is selected", m.statuses(Master.control(3, OPERATE, relays(1))), 2);
        m.send(select);
        m.send(0xC3, OPERATE);
        Expect.due("an operate of a wrong form is none", m.statuses(Master.control(3, OPERATE, relays(1))), 0);
    }

    private static void answersHaveTheSameBytes() {
        for (int function = SELECT; function <= DIRECT; function++) {
            Master m = Master.of(3, 10);
            int[] request = Master.bytes(0xC1, function, 12, 1, 0x17, 2,
                    1, 3, 0xFF, 0x80, 0x7F, 0, 1, 2, 3, 4, 0xFE, 0xAA, 200, 9, 9, 8, 7, 6, 5, 4, 3, 2, 1, 0xBB);
            int status = function == OPERATE ? 2 : 0;
            Expect.due("function " + function, m.ask(request), 0xC1, 0x81, 0x80, 0, 12, 1, 0x17, 2,
                    1, 3, 0xFF, 0x80, 0x7F, 0, 1, 2, 3, 4, 0xFE, status, 200, 9, 9, 8, 7, 6, 5, 4, 3, 2, 1, 4);
        }
    }

    private static void relaysBeyondSeven() {
        for (int k = 0; k < 256; k++) {
            Master m = Master.of(3, 10);
            int want = k > 7 ? 4 : 0;
            Expect.due("direct, relay " + k, m.statuses(Master.control(1, DIRECT, Master.relay(k, 4, 0))), want);
            Expect.due("acts", m.station.count(5), k > 7 ? 0 : 1);
            Expect.due("select", m.statuses(Master.control(2, SELECT, Master.relay(k, 4, 0))), want);
            Expect.due("operate", m.statuses(Master.control(3, OPERATE, Master.relay(k, 4, 0))), want);
        }
    }

    private static void onlyTwoCodes() {
        for (int code = 0; code < 256; code++) {
            Master m = Master.of(3, 10);
            int want = code == 3 || code == 4 ? 0 : 4;
            Expect.due("direct, code " + code, m.statuses(Master.control(1, DIRECT, Master.relay(5, code, 0))), want);
            Expect.due("its code", m.station.relay(5), want == 0 ? code : OutStation.NONE);
            Expect.due("select", m.statuses(Master.control(2, SELECT, Master.relay(5, code, 0))), want);
            Expect.due("operate", m.statuses(Master.control(3, OPERATE, Master.relay(5, code, 0))), want);
        }
    }

    private static void eachByItself() {
        int[][] mixed = {Master.relay(7, 3, 0), Master.relay(8, 3, 0), Master.relay(0, 4, 0), Master.relay(0, 2, 0)};
        Master m = Master.of(3, 10);
        Expect.due("direct", m.statuses(Master.control(1, DIRECT, mixed)), 0, 4, 0, 4);
        Expect.due("two act", m.station.count(5), 2);
        Expect.due("select", m.statuses(Master.control(2, SELECT, mixed)), 0, 4, 0, 4);
        Expect.due("operate", m.statuses(Master.control(3, OPERATE, mixed)), 2, 4, 2, 4);
        Expect.due("no more act", m.station.count(5), 2);
    }

    private static void nothingIsSelected() {
        for (int sequence = 0; sequence < 16; sequence++) {
            Master m = Master.of(3, 10);
            Expect.due("a new object", m.statuses(Master.control(sequence, OPERATE, relays(3))), 2, 2, 2);
            Expect.due("none acts", m.station.count(5), 0);
        }
    }

    private static void everyByteIsCompared() {
        int[] select = Master.control(1, SELECT, relays(8));
        for (int at = 6; at < select.length; at++) {
            Master m = Master.of(3, 10);
            m.send(select);
            int[] operate = Master.control(2, OPERATE, relays(8));
            operate[at] ^= 0x80;
            int[] want = all(8, 2);
            if ((at - 6) % 12 < 2) {
                want[(at - 6) / 12] = 4;
            }
            Expect.due("another byte at " + at, m.statuses(operate), want);
            Expect.due("none acts", m.station.count(5), 0);
        }
        Master m = Master.of(3, 10);
        m.send(select);
        Expect.due("one less", m.statuses(Master.control(2, OPERATE, relays(7))), all(7, 2));
        m.send(Master.control(1, SELECT, relays(7)));
        Expect.due("one more", m.statuses(Master.control(2, OPERATE, relays(8))), all(8, 2));
        m.send(Master.control(1, SELECT, Master.relay(1, 3, 0xEE)));
        Expect.due("the same status", m.statuses(Master.control(2, OPERATE, Master.relay(1, 3, 0xEE))), 0);
    }

    private static void sequencesGoRound() {
        for (int select = 0; select < 16; select++) {
            for (int operate = 0; operate < 16; operate++) {
                Master m = Master.of(3, 10);
                m.send(one(select, SELECT));
                boolean next = operate == (select + 1) % 16;
                Expect.due(operate + " behind " + select, m.statuses(one(operate, OPERATE)), next ? 0 : 2);
            }
        }
        Master m = Master.of(3, 10);
        int[] select = one(15, SELECT);
        select[0] = 0xFF;
        m.send(select);
        Expect.due("other bits of the control byte are free", m.statuses(one(0, OPERATE)), 0);
    }

    private static int statusAfter(int timeout, int... ticks) {
        Master m = Master.of(3, timeout);
        m.send(one(1, SELECT));
        for (int n : ticks) {
            m.station.tick(n);
        }
        return m.statuses(one(2, OPERATE))[0];
    }

    private static void timeoutsEndAtTheirTick() {
        int[] timeouts = {0, 1, 2, 50, 9999, 10000};
        for (int timeout : timeouts) {
            Expect.due("just in time", statusAfter(timeout, timeout), 0);
            Expect.due("one tick late", statusAfter(timeout, timeout, 1), 1);
        }
        Expect.due("as late as can be", statusAfter(10000, 1000000000), 1);
        Master m = Master.of(3, 10);
        m.send(Master.control(1, SELECT, relays(8)));
        m.station.tick(11);
        Expect.due("for all", m.statuses(Master.control(2, OPERATE, relays(8))), all(8, 1));
        Expect.due("none acts", m.station.count(5), 0);
    }

    private static void ticksCountFromTheSelect() {
        Master m = Master.of(3, 10);
        m.station.tick(999999990);
        m.send(one(1, SELECT));
        m.station.tick(10);
        Expect.due("at the last tick of all", m.statuses(one(2, OPERATE)), 0);
        m = Master.of(3, 10);
        m.send(one(1, SELECT));
        m.station.tick(10);
        m.send(one(2, SELECT));
        m.station.tick(10);
        Expect.due("from the latest select", m.statuses(one(3, OPERATE)), 0);
    }

    private static void notSelectedComesBeforeLate() {
        Master m = Master.of(3, 0);
        m.send(one(1, SELECT));
        m.station.tick(1);
        Expect.due("late, with a wrong sequence", m.statuses(one(3, OPERATE)), 2);
        m.send(one(1, SELECT));
        m.station.tick(1);
        Expect.due("late, with other bytes", m.statuses(Master.control(2, OPERATE, Master.relay(2, 4, 0))), 2);
        m.send(one(1, SELECT));
        m.station.tick(1);
        Expect.due("late, with a relay that there is not",
                m.statuses(Master.control(2, OPERATE, Master.relay(2, 3, 0), Master.relay(8, 3, 0))), 2, 4);
        m.send(one(1, SELECT));
        m.station.tick(1);
        Expect.due("late", m.statuses(one(2, OPERATE)), 1);
    }

    private static void onlyWholeSelectsAreKept() {
        for (int wrong = 0; wrong < 8; wrong++) {
            int[][] list = relays(8);
            list[wrong] = wrong % 2 == 0 ? Master.relay(8, 3, 0) : Master.relay(wrong, 5, 0);
            Master m = Master.of(3, 10);
            m.send(Master.control(1, SELECT, list));
            int[] want = all(8, 2);
            want[wrong] = 4;
            Expect.due("number " + wrong + " is wrong", m.statuses(Master.control(2, OPERATE, list)), want);
        }
        Master m = Master.of(3, 10);
        m.send(one(1, SELECT));
        m.send(Master.control(1, SELECT, Master.relay(2, 5, 0)));
        Expect.due("a select that is not kept forgets the one before", m.statuses(one(2, OPERATE)), 2);
    }

    private static void dueForgotten(Master m) {
        int[] again = one(2, OPERATE);
        again[0] = 0xD2;
        Expect.due("forgotten", m.statuses(again), 2);
    }

    private static void everyOperateForgets() {
        Master m = Master.of(3, 10);
        m.send(one(1, SELECT));
        Expect.due("with status 0", m.statuses(one(2, OPERATE)), 0);
        dueForgotten(m);
        m.send(one(1, SELECT));
        m.station.tick(11);
        Expect.due("with status 1", m.statuses(one(2, OPERATE)), 1);
        dueForgotten(m);
        m.send(one(1, SELECT));
        Expect.due("with status 2", m.statuses(one(3, OPERATE)), 2);
        dueForgotten(m);
        m.send(one(1, SELECT));
        Expect.due("with status 4", m.statuses(Master.control(2, OPERATE, Master.relay(9, 3, 0))), 4);
        dueForgotten(m);
        Expect.due("it acted once", m.station.count(5), 1);
    }

    private static void allOthersForget() {
        for (int function = 0; function < 256; function++) {
            Master m = Master.of(3, 10);
            m.send(one(1, SELECT));
            m.send(0xC7, function);
            boolean kept = function == 0 || function == OPERATE;
            Expect.due("behind function " + function, m.statuses(one(2, OPERATE)), kept ? 0 : 2);
        }
    }

    private static void relaysActInOrder() {
        int[][] list = {Master.relay(6, 3, 0), Master.relay(6, 4, 0), Master.relay(5, 4, 0), Master.relay(5, 3, 0),
            Master.relay(6, 9, 0)};
        Master m = Master.of(3, 10);
        Expect.due("direct", m.statuses(Master.control(1, DIRECT, list)), 0, 0, 0, 0, 4);
        Expect.due("the latest code of 6", m.station.relay(6), 4);
        Expect.due("the latest code of 5", m.station.relay(5), 3);
        Expect.due("four acts", m.station.count(5), 4);
        int[][] turned = {Master.relay(6, 4, 0), Master.relay(6, 3, 0)};
        m.send(Master.control(2, SELECT, turned));
        Expect.due("a select does not act", m.station.relay(6), 4);
        m.send(Master.control(3, OPERATE, turned));
        Expect.due("operated", m.station.relay(6), 3);
        Expect.due("six acts", m.station.count(5), 6);
    }

    private static void eachActsOnce() {
        Master m = Master.of(3, 10);
        m.send(one(1, SELECT));
        for (int i = 0; i < 5; i++) {
            m.send(one(2, OPERATE));
        }
        Expect.due("an operate that is repeated", m.station.count(5), 1);
        m.feed(Master.frame(0xC0));
        int[] frame = Master.frame(0xE3, Master.join(Master.bytes(0xC0), one(9, DIRECT)));
        m.feed(frame);
        m.feed(frame);
        Expect.due("a frame that is repeated", m.station.count(5), 2);
        m.send(one(9, DIRECT));
        Expect.due("a direct one that is repeated", m.station.count(5), 2);
        m.send(one(10, DIRECT));
        Expect.due("a new one", m.station.count(5), 3);
    }

    private static void latestCodesAreKept() {
        for (int k = 0; k < 8; k++) {
            Master m = Master.of(3, 10);
            Expect.due("at first", m.station.relay(k), OutStation.NONE);
            m.send(Master.control(1, DIRECT, Master.relay(k, 3, 0)));
            Expect.due("on", m.station.relay(k), 3);
            m.send(Master.control(2, DIRECT, Master.relay(k, 4, 0)));
            Expect.due("off", m.station.relay(k), 4);
            m.send(Master.control(3, DIRECT, Master.relay(k, 5, 0)));
            Expect.due("a code that is none", m.station.relay(k), 4);
            for (int other = 0; other < 8; other++) {
                Expect.due("relay " + other, m.station.relay(other), other == k ? 4 : OutStation.NONE);
            }
        }
    }
}
