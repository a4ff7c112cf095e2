import java.util.Arrays;

/** Section 2 of the document, the edges of requests, answers and confirms: each sentence has a test. */
public final class RequestEdgesTest {
    private static final int[] CLEAR = {80, 1, 0, 7, 7, 0};

    public static void main(String[] args) {
        Expect.holds("its lowest four bits are the SEQUENCE", RequestEdgesTest::sequencesHaveFourBits);
        Expect.holds("the same, byte by byte, as the latest one that was answered", RequestEdgesTest::everyByteIsCompared);
        Expect.holds("the latest one that was answered", RequestEdgesTest::onlyTheLatestIsRepeated);
        Expect.holds("the latest one that was answered", RequestEdgesTest::theFirstOneIsNoRepeat);
        Expect.holds("that answer is sent again, nothing else", RequestEdgesTest::repeatsDoNothingElse);
        Expect.holds("but for function 0", RequestEdgesTest::confirmsForgetNothing);
        Expect.holds("nothing waits to be confirmed any more", RequestEdgesTest::newRequestsEndTheWait);
        Expect.holds("C0 and the sequence (and 20, if it has events)", RequestEdgesTest::eventsSetTheirBit);
        Expect.holds("at most 249 bytes", RequestEdgesTest::answersHave249Bytes);
        Expect.holds("a number, from 0 on, that is one more (modulo 64) each time", RequestEdgesTest::answerNumbersGoRound);
        Expect.holds("bit c (1 .. 3): class c has events that are not in this answer", RequestEdgesTest::eachClassHasItsBit);
        Expect.holds("bit 7 RESTARTED (until it is cleared)", RequestEdgesTest::restartedStaysTillItIsCleared);
        Expect.holds("bit 3 events were LOST", RequestEdgesTest::lostIsToldTillAConfirm);
        Expect.holds("0 CONFIRM: no answer", RequestEdgesTest::confirmsHaveNoAnswer);
        Expect.holds("if an answer with this sequence waits to be confirmed", RequestEdgesTest::onlyItsSequenceConfirms);
        Expect.holds("its events go", RequestEdgesTest::onlyItsEventsGo);
        Expect.holds("its events go", RequestEdgesTest::eventsThatWentBeforeTakeNoOthers);
        Expect.holds("LOST is cleared, and it waits no more (else nothing)", RequestEdgesTest::confirmsCountOnce);
        Expect.holds("2 WRITE: 80, 1, 0, 7, 7, 0 just so clears RESTARTED", RequestEdgesTest::writesAreJustSo);
        Expect.holds("Else no such function.", RequestEdgesTest::allOtherFunctionsAreUnknown);
        Expect.end();
    }

    /** Binary 0 is of class 1, binary 1 of class 2, binary 2 of class 3, each with one event. */
    private static Master withEvents(int size) {
        Master m = Master.of(size, 10);
        for (int k = 0; k < 3; k++) {
            m.station.sort(false, k, k + 1);
            m.station.binary(k, true);
        }
        return m;
    }

    private static void dueEvents(Master m, int... want) {
        for (int i = 0; i < 3; i++) {
            Expect.due("events of class " + (i + 1), m.station.count(7 + i), want[i]);
        }
    }

    private static void sequencesHaveFourBits() {
        for (int sequence = 0; sequence < 16; sequence++) {
            Master m = Master.of(3, 3);
            Expect.due("sequence " + sequence, m.ask(0xC0 | sequence, 1), 0xC0 | sequence, 0x81, 0x80, 0);
            Expect.due("other bits are none of it", m.ask(0xF0 | sequence, 1), 0xC0 | sequence, 0x81, 0x80, 0);
        }
    }

    private static void everyByteIsCompared() {
        int[] direct = Master.control(1, 5, Master.relay(2, 3, 0));
        for (int i = 0; i < direct.length; i++) {
            Master m = Master.of(3, 3);
            m.send(direct);
            m.send(direct);
            Expect.due("the same acts once", m.station.count(5), 1);
            int[] other = direct.clone();
            other[i] ^= i == 0 ? 0x10 : 1;
            m.send(other);
            m.send(direct);
            Expect.due("another byte at " + i + " came between", m.station.count(5) >= 2, true);
        }
        Master m = Master.of(3, 3);
        m.ask(0xC1, 1, 1, 2, 6, 30, 2, 6);
        Expect.due("shorter", m.ask(0xC1, 1, 1, 2, 6).length, 25);
        Expect.due("longer", m.ask(0xC1, 1, 1, 2, 6, 30, 2, 6).length, 78);
        m = Master.of(3, 3);
        int[] most = Master.ramp(0xC5, 249);
        m.send(most);
        m.send(most);
        m.dueRequests("of 249 bytes, too", 2);
        Expect.due("its answer twice", m.station.count(0), 34);
        m = Master.of(3, 3);
        m.send(direct);
        // Bytes that stand behind a shorter request in the same row are none of it.
        m.send(Master.ramp(0x01, 200));
        m.send(direct);
        Expect.due("behind a longer fragment that was no request", m.station.count(5), 1);
    }

    private static void onlyTheLatestIsRepeated() {
        Master m = Master.of(3, 3);
        int[] one = Master.control(1, 5, Master.relay(1, 3, 0));
        int[] two = Master.control(2, 5, Master.relay(2, 4, 0));
        m.send(one);
        m.send(two);
        m.send(one);
        Expect.due("the one before the latest is new", m.station.count(5), 3);
        m.send(0xC1, 0);
        m.send(one);
        Expect.due("a confirm is not answered and takes no one's place", m.station.count(5), 3);
        m.send(0xC7, 99);
        m.send(one);
        Expect.due("an unknown function is answered", m.station.count(5), 4);
    }

    private static void theFirstOneIsNoRepeat() {
        for (int function = 0; function < 256; function++) {
            Master m = Master.of(3, 3);
            m.send(0xC0, function);
            Expect.due("function " + function + " at first", m.station.count(0), function == 0 ? 0 : 17);
        }
    }

    private static void repeatsDoNothingElse() {
        Master m = withEvents(5);
        int[] first = m.ask(0xC1, 1, 60, 2, 6);
        m.station.binary(0, false);
        Expect.due("the answer as it was", m.ask(0xC1, 1, 60, 2, 6), first);
        m.send(0xC1, 0);
        dueEvents(m, 1, 1, 1);
        Expect.due("behind a confirm, too", m.ask(0xC1, 1, 60, 2, 6), first);
        m.send(0xC1, 0);
        dueEvents(m, 1, 1, 1);
        int[] select = Master.control(3, 3, Master.relay(1, 3, 0));
        m.send(select);
        m.station.tick(6);
        m.send(select);
        m.station.tick(5);
        Expect.due("a repeated select is no new one", m.statuses(Master.control(4, 4, Master.relay(1, 3, 0))), 1);
        m.send(select);
        m.send(select);
        Expect.due("nor is it forgotten", m.statuses(Master.control(4, 4, Master.relay(1, 3, 0))), 0);
    }

    private static void confirmsForgetNothing() {
        Master m = withEvents(5);
        m.send(Master.control(3, 3, Master.relay(1, 3, 0)));
        m.send(0xC3, 0);
        m.send(0xC4, 0, 1, 2, 3);
        Expect.due("the select is kept", m.statuses(Master.control(4, 4, Master.relay(1, 3, 0))), 0);
        m.send(0xC5, 1, 60, 2, 6);
        m.send(0xC6, 0);
        m.send(0xC5, 0);
        dueEvents(m, 0, 1, 1);
    }

    private static void newRequestsEndTheWait() {
        int[][] others = {{0xC5, 1}, {0xC5, 2}, {0xC5, 2, 80, 1, 0, 7, 7, 0}, {0xC5, 3}, {0xC5, 4}, {0xC5, 5}, {0xC5, 6},
            {0xC5, 255}, Master.control(5, 4, Master.relay(1, 3, 0))};
        for (int[] other : others) {
            Master m = withEvents(1);
            m.station.binary(0, false);
            m.send(0xC5, 1, 60, 2, 6);
            m.send(other);
            m.send(0xC5, 0);
            dueEvents(m, 1, 1, 1);
            Expect.due("LOST is not cleared either", m.station.count(11), 1);
        }
    }

    private static void eventsSetTheirBit() {
        Master m = withEvents(5);
        Expect.due("asked for none", m.ask(0xCF, 1)[0], 0xCF);
        Expect.due("asked for some", m.ask(0xCF, 1, 60, 4, 6)[0], 0xEF);
        m.send(0xCF, 0);
        Expect.due("asked for some where there are none", m.ask(0xC0, 1, 60, 4, 6)[0], 0xC0);
        Expect.due("asked for some, with a fault behind", m.ask(0xC0, 1, 60, 3, 6, 9)[0], 0xE0);
    }

    private static void answersHave249Bytes() {
        Master m = Master.of(40, 3);
        for (int c = 1; c <= 3; c++) {
            m.station.sort(true, c, c);
            for (int i = 1; i <= 40; i++) {
                m.station.analog(c, i);
            }
        }
        int[] answer = m.ask(0xC1, 1, 1, 2, 6, 60, 2, 6, 60, 3, 6, 60, 4, 6);
        Expect.due("4, 21, 164 and 60 bytes", answer.length, 249);
        Expect.due("classes 2 and 3 have some left", answer[2], 0x8C);
        Expect.due("14 of class 2 have room", answer[4 + 21 + 164 + 3], 14);
    }

    private static void answerNumbersGoRound() {
        Master m = Master.of(3, 3);
        for (int i = 0; i < 130; i++) {
            m.send(0xC0 | i & 15, 99);
            Expect.due("answer " + i, m.station.sent(10), 0xC0 | i % 64);
            m.station.take();
        }
        Master n = Master.of(3, 3);
        n.send(0xC1, 99);
        n.feed(Master.frame(0xC9));
        n.send(0xC1, 0);
        n.send(0xC1, 99);
        int[] sent = n.take();
        Expect.due("the first one has 0", sent[10], 0xC0);
        Expect.due("neither the link's answers nor confirms have one", sent[17 + 10 + 10], 0xC1);
    }

    private static void eachClassHasItsBit() {
        for (int c = 1; c <= 3; c++) {
            Master m = Master.of(2, 3);
            m.station.sort(true, 9, c);
            Expect.due("no events", m.askHead(0xC1, 1)[2], 0x80);
            m.station.analog(9, 5);
            Expect.due("class " + c, m.askHead(0xC2, 1)[2], 0x80 | 1 << c);
            Expect.due("they are in this answer", m.askHead(0xC3, 1, 60, 1 + c, 6)[2], 0x80);
            Expect.due("and not in this one", m.askHead(0xC4, 1)[2], 0x80 | 1 << c);
            m.ask(0xC5, 1, 60, 1 + c, 6);
            m.station.analog(9, 7);
            m.send(0xC5, 0);
            Expect.due("one that came behind it", m.askHead(0xC6, 1)[2], 0x80 | 1 << c);
        }
        Expect.due("all of them", withEvents(2).askHead(0xC1, 1)[2], 0x8E);
    }

    private static void restartedStaysTillItIsCleared() {
        Master m = Master.of(2, 3);
        for (int i = 0; i < 3; i++) {
            Expect.due("restarted", m.askHead(0xC1 + i, 1)[2], 0x80);
            m.feed(Master.frame(0xC0));
        }
        Expect.due("restarted still", m.station.count(10), 1);
        m.clearRestarted(5);
        Expect.due("cleared", m.station.count(10), 0);
        m.feed(Master.frame(0xC0));
        Expect.due("a reset of the link is no restart", m.askHead(0xC6, 1)[2], 0);
    }

    private static void lostIsToldTillAConfirm() {
        Master m = withEvents(1);
        Expect.due("a full class has lost none", m.askHead(0xC1, 1)[3], 0);
        m.station.binary(1, false);
        Expect.due("one beyond", m.askHead(0xC2, 1)[3], 8);
        Expect.due("with a fault", m.askHead(0xC3, 1, 9, 9, 6, 9)[3], 0x0E);
        Expect.due("with no such function", m.askHead(0xC4, 9)[3], 9);
        m.send(0xC5, 1, 60, 2, 6);
        m.send(0xC5, 0);
        Expect.due("behind a confirm", m.askHead(0xC6, 1)[3], 0);
    }

    private static void confirmsHaveNoAnswer() {
        Master m = withEvents(5);
        m.send(0xC1, 0);
        m.send(0xC1, 0);
        m.station.take();
        m.send(0xC2, 1, 60, 2, 6);
        m.station.take();
        m.send(0xC2, 0);
        m.send(0xC2, 0);
        Expect.due("nothing is sent", m.station.take(), 0);
        m.dueRequests("they are requests", 5);
    }

    private static void onlyItsSequenceConfirms() {
        for (int sequence = 0; sequence < 16; sequence++) {
            Master m = withEvents(5);
            m.send(0xC0 | sequence, 1, 60, 2, 6);
            for (int other = 0; other < 16; other++) {
                if (other != sequence) {
                    m.send(0xC0 | other, 0);
                }
            }
            dueEvents(m, 1, 1, 1);
            m.send(0xC0 | sequence, 0);
            dueEvents(m, 0, 1, 1);
        }
        Master m = withEvents(5);
        for (int sequence = 0; sequence < 16; sequence++) {
            m.send(0xC0 | sequence, 0);
        }
        dueEvents(m, 1, 1, 1);
        m.send(0xC3, 1, 1, 2, 6);
        m.send(0xC3, 0);
        dueEvents(m, 1, 1, 1);
    }

    private static void onlyItsEventsGo() {
        Master m = withEvents(5);
        m.send(0xC1, 1, 60, 2, 6, 60, 4, 6);
        m.station.binary(0, false);
        m.station.binary(1, false);
        m.send(0xC1, 0);
        dueEvents(m, 1, 2, 0);
        Expect.due("the later one of class 1 stays", m.station.event(1, 0, 2), 0);
    }

    private static void eventsThatWentBeforeTakeNoOthers() {
        for (int later = 0; later <= 5; later++) {
            Master m = Master.of(3, 3);
            m.station.sort(true, 0, 1);
            m.station.analog(0, 1);
            m.station.analog(0, 2);
            m.send(0xC1, 1, 60, 2, 6);
            for (int i = 1; i <= later; i++) {
                m.station.analog(0, 100 + i);
            }
            m.send(0xC1, 0);
            int stay = Math.min(3, later);
            Expect.due(later + " came behind the answer", m.station.count(7), stay);
            for (int k = 0; k < stay; k++) {
                Expect.due("event " + k, m.station.event(1, k, 2), 100 + later - stay + k + 1);
            }
        }
        Master m = Master.of(1, 3);
        m.station.sort(true, 0, 1);
        m.station.analog(0, 1);
        m.send(0xC1, 1, 60, 2, 6);
        m.station.analog(0, 2);
        m.send(0xC1, 0);
        Expect.due("all of the answer's had gone before", m.station.event(1, 0, 2), 2);
        Expect.due("it waited all the same: LOST is cleared", m.station.count(11), 0);
    }

    private static void confirmsCountOnce() {
        Master m = withEvents(1);
        m.station.binary(0, false);
        Expect.due("LOST", m.station.count(11), 1);
        m.send(0xC1, 0);
        Expect.due("nothing waits", m.station.count(11), 1);
        m.send(0xC1, 1, 60, 2, 6);
        m.send(0xC2, 0);
        Expect.due("another sequence", m.station.count(11), 1);
        m.send(0xC1, 0);
        Expect.due("its own", m.station.count(11), 0);
        m.station.binary(0, true);
        m.station.binary(0, false);
        m.send(0xC1, 0);
        Expect.due("it waits no more", m.station.count(11), 1);
        dueEvents(m, 1, 1, 1);
    }

    private static void writesAreJustSo() {
        for (int n = 0; n <= 8; n++) {
            Master m = Master.of(3, 3);
            int[] request = Master.join(Master.bytes(0xC1, 2), Arrays.copyOf(CLEAR, n));
            Expect.due(n + " bytes", m.ask(request), 0xC1, 0x81, n == 6 ? 0 : 0x80, n == 6 ? 0 : 4);
            Expect.due("whether RESTARTED", m.station.count(10), n == 6 ? 0 : 1);
        }
        for (int i = 0; i < 6; i++) {
            for (int bit = 0; bit < 8; bit++) {
                Master m = Master.of(3, 3);
                int[] request = Master.join(Master.bytes(0xC1, 2), CLEAR);
                request[2 + i] ^= 1 << bit;
                Expect.due("another byte", m.ask(request), 0xC1, 0x81, 0x80, 4);
                Expect.due("RESTARTED", m.station.count(10), 1);
            }
        }
    }

    private static void allOtherFunctionsAreUnknown() {
        for (int function = 0; function < 256; function++) {
            Master m = Master.of(3, 3);
            int[] answer = m.ask(0xC1, function);
            boolean known = function >= 1 && function <= 5;
            int fault = function == 1 ? 0 : known ? 4 : 1;
            if (function != 0) {
                Expect.due("function " + function, answer, 0xC1, 0x81, 0x80, fault);
            }
        }
    }
}
