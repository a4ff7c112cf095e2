/** Section 2 of the document, the edges of fragments: each sentence has a test of its own. */
public final class FragmentEdgesTest {
    public static void main(String[] args) {
        Expect.holds("a first one begins a FRAGMENT", FragmentEdgesTest::aFirstOneBeginsAnew);
        Expect.holds("another one goes on if there is one", FragmentEdgesTest::nothingGoesOnWithoutAFirst);
        Expect.holds("its number is one more (modulo 64)", FragmentEdgesTest::numbersGoRound);
        Expect.holds("than that of the one before", FragmentEdgesTest::onlyTheNextNumberGoesOn);
        Expect.holds("else it does nothing, and there is no fragment any more", FragmentEdgesTest::aGapEndsIt);
        Expect.holds("Beyond 249 bytes", FragmentEdgesTest::mostBytesAre249);
        Expect.holds("Beyond 249 bytes ... there is none any more", FragmentEdgesTest::aFullOneEnds);
        Expect.holds("or without any data at all, there is none any more", FragmentEdgesTest::noDataEndsIt);
        Expect.holds("Data taken has a first byte", FragmentEdgesTest::aFirstByteAloneAddsNothing);
        Expect.holds("With the last one the fragment is a REQUEST", FragmentEdgesTest::onlyTheLastOneMakesIt);
        Expect.holds("if it has two bytes or more", FragmentEdgesTest::twoBytesAreEnough);
        Expect.holds("and the first has both bits 7 and 6", FragmentEdgesTest::bothBitsAreNeeded);
        Expect.holds("the fragment is a REQUEST, if", FragmentEdgesTest::noRequestChangesNothing);
        Expect.end();
    }

    private static void aFirstOneBeginsAnew() {
        Master m = Master.of(3, 3);
        m.segment(0x40, 0xC1, 1, 1, 2, 6);
        m.segment(0xC1, 0xC2, 1);
        Expect.due("what stood before is gone", Master.unpack(m.take()), 0xC2, 0x81, 0x80, 0);
        m.segment(0x40 | 5, 0xC1, 1);
        m.segment(0x40 | 5, 0xC3, 77);
        m.segment(0x80 | 6);
        Expect.due("the same number begins anew, too", Master.unpack(m.take()), 0xC3, 0x81, 0x80, 1);
    }

    private static void nothingGoesOnWithoutAFirst() {
        for (int number = 0; number < 64; number++) {
            Master m = Master.of(3, 3);
            m.segment(0x80 | number, 0xC1, 1);
            m.segment(number + 1 & 0x3F, 0xC1, 1);
            m.segment(0x80 | number + 2 & 0x3F, 0xC1, 1);
            m.dueRequests("there was no first one", 0);
        }
        Master m = Master.of(3, 3);
        m.segment(0xC0 | 5, 0xC1, 1);
        m.segment(0x80 | 6, 0xC2, 1);
        m.dueRequests("a last one ends the fragment", 1);
        m.segment(0xC0 | 7);
        m.segment(0x80 | 8, 0xC3, 1);
        m.dueRequests("also one that is no request", 1);
    }

    private static void numbersGoRound() {
        for (int number = 0; number < 64; number++) {
            Master m = Master.of(3, 3);
            m.segment(0x40 | number, 0xC1);
            m.segment(0x80 | (number + 1) % 64, 1);
            m.dueRequests("behind " + number, 1);
        }
        Master m = Master.of(3, 3);
        m.segment(0x40 | 60, 0xC1, 1);
        for (int i = 0; i < 141; i++) {
            m.segment((61 + i) % 64, i % 3 == 2 ? 6 : 1 + i % 3);
        }
        m.segment(0x80 | (61 + 141) % 64);
        m.dueRequests("more than two times round", 1);
        int[] answer = Master.unpack(m.take());
        Expect.due("it asks for the binaries 47 times", answer.length, 4 + 21);
        Expect.due("without a fault", answer[3], 0);
    }

    private static void onlyTheNextNumberGoesOn() {
        for (int step = 0; step < 64; step++) {
            Master m = Master.of(3, 3);
            m.segment(0x40 | 40, 0xC1);
            m.segment(0x80 | (40 + step) % 64, 1);
            m.dueRequests("a step of " + step, step == 1 ? 1 : 0);
        }
    }

    private static void aGapEndsIt() {
        Master m = Master.of(3, 3);
        m.segment(0x40 | 10, 0xC1, 1);
        m.segment(12);
        m.segment(0x80 | 11);
        m.segment(0x80 | 13);
        m.dueRequests("neither the missing one nor the next one goes on", 0);
        m.segment(0xC0 | 14, 0xC1, 1);
        m.dueRequests("a first one does", 1);
    }

    private static void mostBytesAre249() {
        Master m = Master.of(3, 3);
        m.segment(0xC0, Master.ramp(0xC6, 249));
        m.dueRequests("249 in one", 1);
        for (int first = 0; first <= 249; first += 83) {
            m = Master.of(3, 3);
            m.segment(0x40, Master.ramp(0xC6, first));
            m.segment(0x81, Master.ramp(0xC6 + first, 249 - first));
            m.dueRequests("249 in two", 1);
            m.segment(0x40, Master.ramp(0xC7, first));
            m.segment(0x81, Master.ramp(0xC7 + first, Math.min(249, 250 - first)));
            m.dueRequests("250 in two", first == 0 ? 2 : 1);
        }
    }

    private static void aFullOneEnds() {
        Master m = Master.of(3, 3);
        m.segment(0x40, Master.ramp(0xC6, 249));
        m.segment(1, 0);
        m.segment(0x82);
        m.segment(0x83, 0xC1, 1);
        m.dueRequests("nothing goes on behind 250 bytes", 0);
        m.segment(0x40, Master.ramp(0xC6, 249));
        m.segment(1);
        m.segment(0x82);
        m.dueRequests("249 go on without any more", 1);
    }

    private static void noDataEndsIt() {
        Master m = Master.of(3, 3);
        m.segment(0x40, 0xC1, 1);
        m.feed(Master.frame(0xC4));
        m.segment(0x81);
        m.dueRequests("plain", 0);
        m.feed(Master.frame(0xC0));
        m.segment(0x40, 0xC1, 1);
        m.feed(Master.frame(0xE3));
        m.segment(0x81);
        m.dueRequests("confirmed", 0);
        m.segment(0x40, 0xC1, 1);
        m.feed(Master.frame(0xE3));
        m.feed(Master.frame(0xC9));
        m.feed(Master.frame(0xC0));
        m.feed(Master.frame(0xE2));
        m.feed(Master.frame(0x04));
        m.segment(0x81);
        m.dueRequests("what is not taken ends nothing", 1);
    }

    private static void aFirstByteAloneAddsNothing() {
        Master m = Master.of(3, 3);
        m.segment(0x40);
        m.segment(1);
        m.segment(2, 0xC1);
        m.segment(3);
        m.segment(4, 99);
        m.segment(0x85);
        Expect.due("two bytes in six", Master.unpack(m.take()), 0xC1, 0x81, 0x80, 1);
    }

    private static void onlyTheLastOneMakesIt() {
        Master m = Master.of(3, 3);
        m.segment(0x40, 0xC1, 1);
        m.segment(1, 1, 2, 6);
        m.dueRequests("without a last one", 0);
        Expect.due("no answer yet", m.station.count(0), 0);
        m.segment(0x82);
        m.dueRequests("with it", 1);
        Expect.due("its answer", m.station.count(0), 40);
    }

    private static void twoBytesAreEnough() {
        Master m = Master.of(3, 3);
        m.segment(0xC0);
        m.dueRequests("none", 0);
        m.segment(0xC0, 0xC1);
        m.dueRequests("one", 0);
        m.segment(0xC0, 0xC1, 99);
        m.dueRequests("two", 1);
        m.segment(0xC0, 0xC1, 99, 0);
        m.dueRequests("three", 2);
    }

    private static void bothBitsAreNeeded() {
        for (int control = 0; control < 256; control++) {
            Master m = Master.of(3, 3);
            m.segment(0xC0, control, 99);
            m.dueRequests("control " + control, control >= 0xC0 ? 1 : 0);
            Expect.due("bytes sent", m.station.count(0), control >= 0xC0 ? 17 : 0);
        }
        Master m = Master.of(3, 3);
        m.segment(0x40, 0xC1, 99);
        m.segment(0x81, 0x00);
        m.dueRequests("only the fragment's first byte counts", 1);
    }

    private static void noRequestChangesNothing() {
        Master m = Master.of(3, 10);
        m.station.sort(false, 0, 1);
        m.station.binary(0, true);
        m.ask(0xC1, 1, 60, 2, 6);
        m.send(0x42, 1);
        m.send(0xC1);
        m.send(0x41, 0);
        Expect.due("no confirm", m.station.count(7), 1);
        m.send(0xC1, 0);
        Expect.due("the answer still waited", m.station.count(7), 0);
        m.ask(Master.control(4, 3, Master.relay(1, 3, 0)));
        m.send(0x05, 1);
        Expect.due("the select is still kept", m.statuses(Master.control(5, 4, Master.relay(1, 3, 0))), 0);
    }
}
