/** Promise 2: repeated requests, and events that go when their answer is confirmed. */
public final class ConfirmTest {
    public static void main(String[] args) {
        confirmedEventsGo();
        otherConfirmsDoNothing();
        newRequestsEndTheWait();
        laterEventsStay();
        lostOnesAreTold();
        repeatedRequestsAreAnsweredAgain();
        repeatedOnesKeepTheWait();
        onlyTheSameIsRepeated();
        Expect.end();
    }

    private static Master withTwoEvents(int size) {
        Master m = Master.of(size, 3);
        m.station.sort(false, 0, 1);
        m.station.sort(true, 1, 2);
        m.station.binary(0, true);
        m.station.analog(1, 9);
        return m;
    }

    private static void dueEvents(Master m, String what, int one, int two) {
        Expect.due(what + ": class 1", m.station.count(7), one);
        Expect.due(what + ": class 2", m.station.count(8), two);
    }

    private static void confirmedEventsGo() {
        Master m = withTwoEvents(3);
        m.ask(0xC5, 1, 60, 2, 6, 60, 3, 6);
        Expect.due("a confirm has no answer", m.ask(0xC5, 0));
        dueEvents(m, "confirmed", 0, 0);
        Expect.due("it is a request all the same", m.station.count(4), 2);
        m = withTwoEvents(3);
        m.ask(0xC5, 1, 60, 3, 6);
        m.send(0xF5, 0, 1, 2, 3);
        dueEvents(m, "one class confirmed, other bits and bytes are free", 1, 0);
    }

    private static void otherConfirmsDoNothing() {
        Master m = withTwoEvents(3);
        m.send(0xC0, 0);
        dueEvents(m, "nothing waits", 1, 1);
        m.ask(0xC5, 1, 60, 2, 6);
        for (int sequence = 0; sequence < 16; sequence++) {
            if (sequence != 5) {
                m.send(0xC0 | sequence, 0);
            }
        }
        dueEvents(m, "other sequences", 1, 1);
        m.send(0x85, 0);
        dueEvents(m, "no request", 1, 1);
        m.send(0xC5, 0);
        dueEvents(m, "its own sequence still goes", 0, 1);
        m.station.binary(0, false);
        m.send(0xC5, 0);
        dueEvents(m, "it waits no more", 1, 1);
        m.ask(0xC6, 1, 1, 2, 6);
        m.send(0xC6, 0);
        dueEvents(m, "an answer without events does not wait", 1, 1);
    }

    private static void newRequestsEndTheWait() {
        int[][] others = {{0xC6, 1}, {0xC6, 2}, {0xC6, 3}, {0xC6, 4}, {0xC6, 5}, {0xC6, 99}, {0xC5, 1}};
        for (int[] other : others) {
            Master m = withTwoEvents(3);
            m.ask(0xC5, 1, 60, 2, 6);
            m.send(other);
            m.send(0xC5, 0);
            dueEvents(m, "a new request came before", 1, 1);
            Expect.due("class 1 has events that are not in this answer", m.askHead(0xC8, 1, 60, 3, 6)[2], 0x82);
        }
        Master m = withTwoEvents(3);
        m.ask(0xC5, 1, 60, 2, 6);
        m.ask(0xC6, 1, 60, 3, 6);
        m.send(0xC5, 0);
        dueEvents(m, "the first answer waits no more", 1, 1);
        m.send(0xC6, 0);
        dueEvents(m, "the second one does", 1, 0);
    }

    private static void laterEventsStay() {
        Master m = withTwoEvents(3);
        m.ask(0xC5, 1, 60, 2, 6, 60, 3, 6);
        m.station.binary(0, false);
        m.station.analog(1, 10);
        m.send(0xC5, 0);
        dueEvents(m, "those that came behind the answer stay", 1, 1);
        Expect.due("the later one", m.station.event(2, 0, 2), 10);
    }

    private static void lostOnesAreTold() {
        Master m = withTwoEvents(2);
        m.station.binary(0, false);
        Expect.due("none is lost", m.askHead(0xC4, 1)[3], 0);
        m.station.binary(0, true);
        Expect.due("lost", m.askHead(0xC5, 1)[3], 8);
        m.ask(0xC5, 1, 60, 2, 6);
        m.station.binary(0, false);
        m.send(0xC5, 0);
        dueEvents(m, "one of the answer's had gone before", 1, 1);
        Expect.due("the one that came behind stays", m.station.event(1, 0, 2), 0);
        Expect.due("a confirm clears it", m.station.count(11), 0);
        Expect.due("it is not indicated", m.askHead(0xC6, 1)[3], 0);
        m.station.binary(0, true);
        m.station.binary(0, false);
        Expect.due("lost again", m.station.count(11), 1);
        m.send(0xC6, 0);
        Expect.due("a confirm of nothing does not clear it", m.station.count(11), 1);
        m.ask(0xC7, 1, 60, 3, 6);
        m.send(0xC8, 0);
        Expect.due("nor does another sequence", m.station.count(11), 1);
        m.send(0xC7, 0);
        Expect.due("any class's confirm does", m.station.count(11), 0);
    }

    private static void repeatedRequestsAreAnsweredAgain() {
        Master m = withTwoEvents(3);
        m.send(0xC5, 1, 60, 2, 6);
        int[] first = m.take();
        Expect.due("the first number is 0", first[10], 0xC0);
        m.send(0xC5, 0);
        m.station.binary(0, false);
        m.send(0xC5, 1, 60, 2, 6);
        int[] second = m.take();
        Expect.due("the next number is 1", second[10], 0xC1);
        Expect.due("the same answer with the old event", Master.unpack(second), Master.unpack(first));
        m.send(0xC5, 0);
        dueEvents(m, "it does not wait again", 1, 1);
        Expect.due("requests, the repeated ones too", m.station.count(4), 4);
        m.send(0xC6, 2, 80, 1, 0, 7, 7, 0);
        m.take();
        for (int number = 3; number < 70; number++) {
            m.send(0xC6, 2, 80, 1, 0, 7, 7, 0);
            Expect.due("numbers go round", m.station.sent(10), 0xC0 | number % 64);
            m.station.take();
        }
    }

    private static void repeatedOnesKeepTheWait() {
        Master m = withTwoEvents(3);
        int[] first = m.ask(0xC5, 1, 60, 2, 6);
        m.station.binary(0, false);
        Expect.due("the answer as it was", m.ask(0xC5, 1, 60, 2, 6), first);
        m.send(0xC5, 0);
        dueEvents(m, "the first event goes", 1, 1);
        Expect.due("the later one stays", m.station.event(1, 0, 2), 0);
    }

    private static void onlyTheSameIsRepeated() {
        Master m = withTwoEvents(9);
        int[] first = m.ask(0xC5, 1, 60, 2, 6);
        m.station.binary(0, false);
        Expect.due("another control byte", m.ask(0xD5, 1, 60, 2, 6).length, first.length + 2);
        m.station.binary(0, true);
        Expect.due("another sequence", m.ask(0xD6, 1, 60, 2, 6).length, first.length + 4);
        m.station.binary(0, false);
        Expect.due("longer", m.ask(0xD6, 1, 60, 2, 6, 60, 2, 6).length, first.length + 6);
        m.station.binary(0, true);
        Expect.due("shorter", m.ask(0xD6, 1, 60, 2, 6).length, first.length + 8);
        m.station.binary(0, false);
        Expect.due("the one before the latest", m.ask(0xC5, 1, 60, 2, 6).length, first.length + 10);
        int[] latest = m.ask(0xC5, 1, 60, 2, 6);
        m.send(0xC9, 0);
        m.station.binary(0, true);
        Expect.due("a confirm is not answered: the latest one is the same", m.ask(0xC5, 1, 60, 2, 6), latest);
        int[] unknown = m.ask(0xC5, 77);
        m.clearRestarted(5);
        m.station.sort(true, 1, 0);
        Expect.due("no such function, and not the latest one", m.ask(0xC5, 77)[2], unknown[2] & 0x7F);
    }
}
