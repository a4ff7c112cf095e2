/** Promises 2 and 10: relays that are selected, operated, and operated directly. */
public final class RelayTest {
    private static final int SELECT = 3;
    private static final int OPERATE = 4;
    private static final int DIRECT = 5;

    public static void main(String[] args) {
        selectedOnesAct();
        directOnesAct();
        everyRelayActs();
        eachActsOnce();
        statusesAreTold();
        operatesMustMatch();
        sequencesGoRound();
        timeoutsCount();
        otherRequestsForget();
        someForgetNothing();
        operatesForget();
        wrongFormsDoNothing();
        noSuchRelay();
        Expect.end();
    }

    private static int[] one(int sequence, int function) {
        return Master.control(sequence, function, Master.relay(2, 3, 0));
    }

    private static void dueActs(Master m, String what, int acts) {
        Expect.due(what, m.station.count(5), acts);
    }

    private static void selectedOnesAct() {
        Master m = Master.of(3, 10);
        int[][] two = {Master.relay(2, 3, 0), Master.relay(7, 4, 0)};
        Expect.due("a select", m.ask(Master.control(1, SELECT, two)), Master.join(
                Master.bytes(0xC1, 0x81, 0x80, 0, 12, 1, 0x17, 2), two[0], two[1]));
        dueActs(m, "a select does not act", 0);
        Expect.due("nor has it a code", m.station.relay(2), OutStation.NONE);
        Expect.due("an operate", m.ask(Master.control(2, OPERATE, two)), Master.join(
                Master.bytes(0xC2, 0x81, 0x80, 0, 12, 1, 0x17, 2), two[0], two[1]));
        dueActs(m, "both act", 2);
        Expect.due("on", m.station.relay(2), 3);
        Expect.due("off", m.station.relay(7), 4);
        Expect.due("another one", m.station.relay(3), OutStation.NONE);
    }

    private static void directOnesAct() {
        Master m = Master.of(3, 10);
        Expect.due("direct", m.statuses(one(1, DIRECT)), 0);
        Expect.due("on", m.station.relay(2), 3);
        int[] twice = Master.control(1, DIRECT, Master.relay(2, 3, 9), Master.relay(2, 4, 9));
        Expect.due("the same one twice, with a status", m.statuses(twice), 0, 0);
        Expect.due("the latest time", m.station.relay(2), 4);
        dueActs(m, "three acts", 3);
        int[] mixed = Master.control(2, DIRECT, Master.relay(8, 3, 0), Master.relay(0, 3, 0), Master.relay(1, 5, 0),
                Master.relay(255, 0, 0), Master.relay(1, 2, 7));
        Expect.due("each by itself", m.statuses(mixed), 4, 0, 4, 4, 4);
        dueActs(m, "one more act", 4);
        Expect.due("the one", m.station.relay(0), 3);
        Expect.due("not the other", m.station.relay(1), OutStation.NONE);
    }

    private static void everyRelayActs() {
        int[][] all = new int[8][];
        for (int k = 0; k < 8; k++) {
            all[k] = Master.relay(k, 3 + k % 2, 0);
        }
        Master m = Master.of(3, 10);
        Expect.due("eight selected", m.statuses(Master.control(15, SELECT, all)), new int[8]);
        Expect.due("eight operated", m.statuses(Master.control(0, OPERATE, all)), new int[8]);
        for (int k = 0; k < 8; k++) {
            Expect.due("relay " + k, m.station.relay(k), 3 + k % 2);
        }
        dueActs(m, "eight acts", 8);
    }

    private static void eachActsOnce() {
        Master m = Master.of(3, 10);
        m.ask(one(1, SELECT));
        int[] first = m.ask(one(2, OPERATE));
        Expect.due("repeated: the same answer", m.ask(one(2, OPERATE)), first);
        dueActs(m, "it acts once", 1);
        m.ask(one(3, DIRECT));
        m.ask(one(3, DIRECT));
        dueActs(m, "a direct one acts once", 2);
    }

    private static void statusesAreTold() {
        Master m = Master.of(3, 10);
        int[] half = Master.control(1, SELECT, Master.relay(2, 3, 0), Master.relay(3, 0x43, 5));
        Expect.due("one that is not known", m.statuses(half), 0, 4);
        half[0] = 0xC2;
        half[1] = OPERATE;
        Expect.due("that select is not kept", m.statuses(half), 2, 4);
        dueActs(m, "none acts", 0);
        Expect.due("with a status in it", m.statuses(Master.control(3, SELECT, Master.relay(1, 4, 0x55))), 0);
        Expect.due("the same status", m.statuses(Master.control(4, OPERATE, Master.relay(1, 4, 0x55))), 0);
        dueActs(m, "it acts", 1);
        m.ask(Master.control(5, SELECT, Master.relay(1, 4, 0)));
        Expect.due("not known and not selected", m.statuses(Master.control(6, OPERATE, Master.relay(8, 4, 0))), 4);
    }

    private static void operatesMustMatch() {
        Master m = Master.of(3, 10);
        Expect.due("nothing is selected", m.statuses(one(1, OPERATE)), 2);
        int[] request = Master.control(2, SELECT, Master.relay(2, 3, 0), Master.relay(4, 4, 0));
        for (int i = 6; i < request.length; i++) {
            if ((i - 6) % 12 < 2) {
                continue;
            }
            Master n = Master.of(3, 10);
            n.ask(request);
            int[] other = request.clone();
            other[0] = 0xC3;
            other[1] = OPERATE;
            other[i] ^= 1;
            Expect.due("another byte at " + i, n.statuses(other), 2, 2);
            dueActs(n, "none acts", 0);
        }
        m.ask(request);
        Expect.due("one of two", m.statuses(Master.control(3, OPERATE, Master.relay(2, 3, 0))), 2);
        m.ask(request);
        Expect.due("the other code", m.statuses(
                Master.control(3, OPERATE, Master.relay(2, 4, 0), Master.relay(4, 4, 0))), 2, 2);
        m.ask(request);
        Expect.due("another order", m.statuses(
                Master.control(3, OPERATE, Master.relay(4, 4, 0), Master.relay(2, 3, 0))), 2, 2);
        dueActs(m, "none acts", 0);
    }

    private static void sequencesGoRound() {
        for (int select = 0; select < 16; select++) {
            for (int step = 0; step < 16; step += 1 + step % 3) {
                Master m = Master.of(3, 10);
                m.ask(one(select, SELECT));
                int[] operate = one(select + step & 15, OPERATE);
                Expect.due("a step of " + step, m.statuses(operate), step == 1 ? 0 : 2);
            }
        }
        Master m = Master.of(3, 10);
        m.ask(one(4, SELECT));
        int[] operate = one(5, OPERATE);
        operate[0] = 0xF5;
        Expect.due("the sequence is four bits", m.statuses(operate), 0);
    }

    private static void timeoutsCount() {
        Master m = Master.of(3, 10);
        m.station.tick(100);
        m.ask(one(1, SELECT));
        m.station.tick(10);
        Expect.due("just in time", m.statuses(one(2, OPERATE)), 0);
        m.ask(one(1, SELECT));
        m.station.tick(10);
        m.station.tick(1);
        Expect.due("late", m.statuses(one(2, OPERATE)), 1);
        dueActs(m, "one act", 1);
        m.ask(one(1, SELECT));
        m.station.tick(11);
        Expect.due("late and not the same", m.statuses(one(3, OPERATE)), 2);
        m.ask(one(1, SELECT));
        m.station.tick(6);
        m.ask(one(1, SELECT));
        m.station.tick(6);
        Expect.due("a repeated select is the first one", m.statuses(one(2, OPERATE)), 1);
    }

    private static void otherRequestsForget() {
        int[][] others = {{0xC2, 1}, {0xC2, 1, 60, 2, 6}, {0xC2, 2}, {0xC2, 3}, {0xC2, 5}, {0xC2, 99},
            one(1, DIRECT), Master.control(1, SELECT, Master.relay(9, 3, 0))};
        for (int[] other : others) {
            Master m = Master.of(3, 10);
            m.ask(one(1, SELECT));
            m.ask(other);
            Expect.due("forgotten", m.statuses(one(2, OPERATE)), 2);
        }
        Master m = Master.of(3, 10);
        m.ask(one(1, SELECT));
        m.ask(Master.control(5, SELECT, Master.relay(6, 4, 0)));
        Expect.due("the later select is kept", m.statuses(Master.control(6, OPERATE, Master.relay(6, 4, 0))), 0);
    }

    private static void someForgetNothing() {
        Master m = Master.of(3, 10);
        m.ask(one(1, SELECT));
        m.send(0xC1, 0);
        m.send(0x01, 1);
        m.feed(Master.frame(0xC0));
        m.ask(one(1, SELECT));
        m.ask(0xC2, OPERATE, 12, 1);
        Expect.due("a confirm, no request, a repeated one and a wrong form", m.statuses(one(2, OPERATE)), 0);
        dueActs(m, "it acts", 1);
    }

    private static void operatesForget() {
        Master m = Master.of(3, 10);
        m.ask(one(1, SELECT));
        Expect.due("a wrong sequence", m.statuses(one(3, OPERATE)), 2);
        Expect.due("forgotten then", m.statuses(one(2, OPERATE)), 2);
        m.ask(one(1, SELECT));
        m.ask(one(2, OPERATE));
        int[] again = one(2, OPERATE);
        again[0] = 0xD2;
        Expect.due("forgotten when it acted", m.statuses(again), 2);
        dueActs(m, "one act", 1);
    }

    private static void wrongFormsDoNothing() {
        int[] right = Master.control(1, DIRECT, Master.relay(2, 3, 0), Master.relay(3, 3, 0));
        int[][] wrong = {{0xC1, 5}, {0xC1, 5, 12}, {0xC1, 5, 12, 1, 0x17}, {0xC1, 5, 12, 1, 0x17, 0},
            java.util.Arrays.copyOf(right, right.length - 1), java.util.Arrays.copyOf(right, right.length + 1),
            changed(right, 2, 13), changed(right, 3, 2), changed(right, 4, 17), changed(right, 4, 0x28),
            changed(right, 5, 1), changed(right, 5, 3), changed(right, 5, 0), changed(right, 5, 255), tooMany()};
        for (int[] request : wrong) {
            for (int function = SELECT; function <= DIRECT; function++) {
                Master m = Master.of(3, 10);
                request[1] = function;
                Expect.due("another fault", m.ask(request), 0xC1, 0x81, 0x80, 4);
                dueActs(m, "nothing is done", 0);
            }
        }
    }

    private static int[] changed(int[] request, int at, int value) {
        int[] other = request.clone();
        other[at] = value;
        return other;
    }

    private static int[] tooMany() {
        int[][] nine = new int[9][];
        for (int i = 0; i < 9; i++) {
            nine[i] = Master.relay(i % 8, 3, 0);
        }
        return Master.control(1, DIRECT, nine);
    }

    private static void noSuchRelay() {
        OutStation x = new OutStation(4, 3, 3, 3);
        Expect.dueNoPlace("relay(-1)", () -> x.relay(-1));
        Expect.dueNoPlace("relay(8)", () -> x.relay(8));
        Expect.dueNoPlace("relay(most)", () -> x.relay(Integer.MAX_VALUE));
        Expect.due("relay(7)", x.relay(7), OutStation.NONE);
    }
}
