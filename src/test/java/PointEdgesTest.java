/** Section 3 of the document and promises 4 to 7 and 11, their edges: each sentence has a test. */
public final class PointEdgesTest {
    private static final int[] NO_PLACES = {-1, 16, 17, 256, 65536, Integer.MIN_VALUE, Integer.MAX_VALUE};

    public static void main(String[] args) {
        Expect.holds("BINARIES 0 .. 15 (off)", PointEdgesTest::sixteenBinariesAreOff);
        Expect.holds("ANALOGS 0 .. 15 (0)", PointEdgesTest::sixteenAnalogsAreZero);
        Expect.holds("have a CLASS 0 .. 3 (0 at first: no events)", PointEdgesTest::classZeroHasNoEvents);
        Expect.holds("analogs a BAND (0)", PointEdgesTest::bandsAreZeroAtFirst);
        Expect.holds("A binary that changes makes an event of its class", PointEdgesTest::onlyChangesMakeEvents);
        Expect.holds("farther from the value of its latest event ... than its band", PointEdgesTest::onlyFartherValuesMakeEvents);
        Expect.holds("the value of its latest event (0 at first)", PointEdgesTest::theLatestEventCounts);
        Expect.holds("A class has SIZE events at most: the oldest one goes then", PointEdgesTest::theOldestOneGoes);
        Expect.holds("and they are LOST", PointEdgesTest::lostIsSetBeyondTheSize);
        Expect.holds("A class has SIZE events at most", PointEdgesTest::eachClassHasItsOwn);
        Expect.holds("A binary is on or off: ... IndexOutOfBoundsException.", PointEdgesTest::noSuchBinary);
        Expect.holds("An analog has a value: ... IndexOutOfBoundsException", PointEdgesTest::noSuchAnalog);
        Expect.holds("IllegalArgumentException: it is not -32768 .. 32767.", PointEdgesTest::valuesHaveSixteenBits);
        Expect.holds("The class of a point ...: whether it is another one.", PointEdgesTest::anotherClassIsTold);
        Expect.holds("The class of a point ... from now on", PointEdgesTest::olderEventsStayInTheirClass);
        Expect.holds("IndexOutOfBoundsException: also no such class.", PointEdgesTest::noSuchClass);
        Expect.holds("The band of an analog. IndexOutOfBoundsException", PointEdgesTest::noSuchBandedAnalog);
        Expect.holds("IllegalArgumentException: it is not 0 .. 65535.", PointEdgesTest::bandsHaveTheirEnds);
        Expect.holds("the one named first when several would do", PointEdgesTest::theFirstNamedIsThrown);
        Expect.holds("Event k, from 0, the oldest, of a class (1 .. 3)", PointEdgesTest::eventsHaveTheirEnds);
        Expect.holds("IndexOutOfBoundsException: also no such what.", PointEdgesTest::noSuchWhat);
        Expect.end();
    }

    private static OutStation newOne(int size) {
        return new OutStation(4, 3, size, 5);
    }

    private static void sixteenBinariesAreOff() {
        for (int k = 0; k < 16; k++) {
            OutStation x = newOne(3);
            Expect.due("off at first", x.binary(k, false), false);
            Expect.due("on", x.binary(k, true), true);
            Expect.due("on again", x.binary(k, true), false);
            Expect.due("off", x.binary(k, false), true);
            Expect.due("off again", x.binary(k, false), false);
        }
    }

    private static void sixteenAnalogsAreZero() {
        for (int k = 0; k < 16; k++) {
            OutStation x = newOne(3);
            x.sort(true, k, 1);
            Expect.due("0 at first", x.analog(k, 0), false);
            Expect.due("1", x.analog(k, 1), true);
            Expect.due("its number", x.event(1, 0, 1), k);
        }
    }

    private static void classZeroHasNoEvents() {
        OutStation x = newOne(3);
        for (int k = 0; k < 16; k++) {
            Expect.due("a binary changes", x.binary(k, true), true);
            Expect.due("an analog makes no event", x.analog(k, 32767), false);
        }
        Expect.due("no events", x.count(7) + x.count(8) + x.count(9), 0);
        Expect.due("none are lost", x.count(11), 0);
        x.sort(true, 0, 3);
        x.analog(0, 1);
        x.sort(true, 0, 0);
        Expect.due("class 0 once more", x.analog(0, -32768), false);
        Expect.due("one event in between", x.count(9), 1);
    }

    private static void bandsAreZeroAtFirst() {
        for (int k = 0; k < 16; k++) {
            OutStation x = newOne(3);
            x.sort(true, k, 2);
            Expect.due("the least step up", x.analog(k, 1), true);
            Expect.due("no step", x.analog(k, 1), false);
            Expect.due("the least step down", x.analog(k, 0), true);
        }
    }

    private static void onlyChangesMakeEvents() {
        for (int c = 1; c <= 3; c++) {
            OutStation x = newOne(9);
            x.sort(false, 6, c);
            x.binary(6, false);
            Expect.due("no change, no event", x.count(6 + c), 0);
            x.binary(6, true);
            x.binary(6, true);
            Expect.due("one change, one event", x.count(6 + c), 1);
            x.binary(6, false);
            Expect.due("two events", x.count(6 + c), 2);
            Expect.due("in its class alone", x.count(7) + x.count(8) + x.count(9), 2);
            Expect.due("on", x.event(c, 0, 2), 1);
            Expect.due("off", x.event(c, 1, 2), 0);
        }
    }

    private static void onlyFartherValuesMakeEvents() {
        int[] bands = {0, 1, 2, 100, 32766, 32767};
        for (int band : bands) {
            OutStation x = newOne(9);
            x.sort(true, 1, 1);
            x.band(1, band);
            Expect.due("as far as " + band + ", up", x.analog(1, band), false);
            Expect.due("as far as " + band + ", down", x.analog(1, -band), false);
            Expect.due("farther, down", x.analog(1, -band - 1), true);
            x = newOne(9);
            x.sort(true, 1, 1);
            x.band(1, band);
            Expect.due("farther, up", band < 32767 && x.analog(1, band + 1), band < 32767);
        }
    }

    private static void theLatestEventCounts() {
        OutStation x = newOne(9);
        x.sort(true, 1, 1);
        x.band(1, 10);
        for (int v = 1; v <= 10; v++) {
            Expect.due("small steps from 0", x.analog(1, v), false);
        }
        Expect.due("11 from 0", x.analog(1, 11), true);
        for (int v = 12; v <= 21; v++) {
            Expect.due("small steps from 11", x.analog(1, v), false);
        }
        Expect.due("11 from 11", x.analog(1, 22), true);
        x.sort(true, 1, 0);
        x.analog(1, 1000);
        x.sort(true, 1, 2);
        Expect.due("without a class there was no event: far from 22", x.analog(1, 1000), true);
        Expect.due("of its class now", x.event(2, 0, 2), 1000);
    }

    private static void theOldestOneGoes() {
        for (int size = 1; size <= 40; size++) {
            OutStation x = newOne(size);
            x.sort(true, 0, 1);
            for (int i = 1; i <= size; i++) {
                x.analog(0, i);
            }
            Expect.due("full", x.count(7), size);
            Expect.due("the oldest", x.event(1, 0, 2), 1);
            x.analog(0, 1000);
            Expect.due("still full", x.count(7), size);
            Expect.due("the newest", x.event(1, size - 1, 2), 1000);
            Expect.due("the oldest now", x.event(1, 0, 2), size == 1 ? 1000 : 2);
        }
        OutStation x = newOne(3);
        x.sort(false, 7, 1);
        x.sort(true, 9, 1);
        x.sort(false, 8, 1);
        x.binary(7, true);
        x.analog(9, -5);
        x.binary(8, true);
        x.analog(9, 6);
        int[] sorts = {1, 0, 1};
        int[] numbers = {9, 8, 9};
        int[] values = {-5, 1, 6};
        for (int k = 0; k < 3; k++) {
            Expect.due("its sort moves with it", x.event(1, k, 0), sorts[k]);
            Expect.due("its number, too", x.event(1, k, 1), numbers[k]);
            Expect.due("its value, too", x.event(1, k, 2), values[k]);
        }
    }

    private static void lostIsSetBeyondTheSize() {
        for (int size = 1; size <= 40; size++) {
            OutStation x = newOne(size);
            x.sort(false, 0, 2);
            for (int i = 1; i <= size; i++) {
                x.binary(0, i % 2 == 1);
            }
            Expect.due("not yet at " + size, x.count(11), 0);
            x.binary(0, size % 2 == 0);
            Expect.due("beyond " + size, x.count(11), 1);
        }
    }

    private static void eachClassHasItsOwn() {
        OutStation x = newOne(2);
        for (int c = 1; c <= 3; c++) {
            x.sort(true, c, c);
            x.analog(c, 1);
            x.analog(c, 2);
        }
        Expect.due("three full classes have lost none", x.count(11), 0);
        x.analog(2, 3);
        Expect.due("class 2 has", x.count(11), 1);
        Expect.due("its oldest", x.event(2, 0, 2), 2);
        Expect.due("class 1 is as it was", x.event(1, 0, 2), 1);
        Expect.due("class 3 is as it was", x.event(3, 0, 2), 1);
    }

    private static void noSuchBinary() {
        OutStation x = newOne(2);
        for (int k : NO_PLACES) {
            Expect.dueNoPlace("binary(" + k + ", true)", () -> x.binary(k, true));
            Expect.dueNoPlace("binary(" + k + ", false)", () -> x.binary(k, false));
        }
        Expect.due("the first one", x.binary(0, true), true);
        Expect.due("the last one", x.binary(15, true), true);
    }

    private static void noSuchAnalog() {
        OutStation x = newOne(2);
        for (int k : NO_PLACES) {
            Expect.dueNoPlace("analog(" + k + ", 0)", () -> x.analog(k, 0));
        }
        x.sort(true, 0, 1);
        x.sort(true, 15, 1);
        Expect.due("the first one", x.analog(0, 1), true);
        Expect.due("the last one", x.analog(15, 1), true);
    }

    private static void valuesHaveSixteenBits() {
        OutStation x = newOne(9);
        x.sort(true, 0, 1);
        int[] wrong = {-32769, 32768, 65535, 65536, -65536, Integer.MIN_VALUE, Integer.MAX_VALUE};
        for (int v : wrong) {
            Expect.dueNoNumber("analog(0, " + v + ")", () -> x.analog(0, v));
        }
        Expect.due("no events", x.count(7), 0);
        Expect.due("the lowest", x.analog(0, -32768), true);
        Expect.due("the highest", x.analog(0, 32767), true);
        Expect.due("the lowest event", x.event(1, 0, 2), -32768);
        Expect.due("the highest event", x.event(1, 1, 2), 32767);
    }

    private static void anotherClassIsTold() {
        for (int k = 0; k < 16; k++) {
            OutStation x = newOne(2);
            Expect.due("0 is the first class", x.sort(false, k, 0) || x.sort(true, k, 0), false);
            for (int c = 3; c >= 0; c--) {
                Expect.due("another one of a binary", x.sort(false, k, c), true);
                Expect.due("another one of an analog", x.sort(true, k, c), true);
                Expect.due("the same one", x.sort(false, k, c) || x.sort(true, k, c), false);
            }
        }
    }

    private static void olderEventsStayInTheirClass() {
        OutStation x = newOne(2);
        x.sort(false, 0, 1);
        x.binary(0, true);
        x.sort(false, 0, 3);
        Expect.due("it stays", x.count(7), 1);
        Expect.due("it is not moved", x.count(9), 0);
        x.binary(0, false);
        Expect.due("the next one is of class 3", x.event(3, 0, 2), 0);
        x.sort(false, 0, 0);
        Expect.due("both stay", x.count(7) + x.count(9), 2);
    }

    private static void noSuchClass() {
        OutStation x = newOne(2);
        int[] wrong = {-1, 4, 5, Integer.MIN_VALUE, Integer.MAX_VALUE};
        for (int c : wrong) {
            Expect.dueNoPlace("sort of a binary to " + c, () -> x.sort(false, 0, c));
            Expect.dueNoPlace("sort of an analog to " + c, () -> x.sort(true, 15, c));
        }
        for (int k : NO_PLACES) {
            Expect.dueNoPlace("sort of binary " + k, () -> x.sort(false, k, 0));
            Expect.dueNoPlace("sort of analog " + k, () -> x.sort(true, k, 3));
        }
        Expect.due("the class is as it was", x.sort(false, 0, 0) || x.sort(true, 15, 0), false);
    }

    private static void noSuchBandedAnalog() {
        OutStation x = newOne(2);
        for (int k : NO_PLACES) {
            Expect.dueNoPlace("band(" + k + ", 0)", () -> x.band(k, 0));
        }
        int[] ends = {0, 15};
        for (int k : ends) {
            x.sort(true, k, 1);
            x.band(k, 5);
            Expect.due("the band of " + k, x.analog(k, 5), false);
            Expect.due("beyond the band of " + k, x.analog(k, 6), true);
        }
    }

    private static void bandsHaveTheirEnds() {
        OutStation x = newOne(2);
        x.sort(true, 0, 1);
        x.band(0, 5);
        int[] wrong = {-1, 65536, Integer.MIN_VALUE, Integer.MAX_VALUE};
        for (int v : wrong) {
            Expect.dueNoNumber("band(0, " + v + ")", () -> x.band(0, v));
        }
        Expect.due("it is as it was", x.analog(0, 5), false);
        x.band(0, 0);
        Expect.due("the least band", x.analog(0, -1), true);
        Expect.due("the lowest value", x.analog(0, -32768), true);
        x.band(0, 65535);
        Expect.due("as far as the most band", x.analog(0, 32767), false);
        x.band(0, 65534);
        Expect.due("farther than one less", x.analog(0, 32767), true);
    }

    private static void theFirstNamedIsThrown() {
        OutStation x = newOne(2);
        for (int k : NO_PLACES) {
            Expect.dueNoPlace("analog, both wrong", () -> x.analog(k, 32768));
            Expect.dueNoPlace("analog, both wrong", () -> x.analog(k, Integer.MIN_VALUE));
            Expect.dueNoPlace("band, both wrong", () -> x.band(k, -1));
            Expect.dueNoPlace("band, both wrong", () -> x.band(k, 65536));
        }
    }

    private static void eventsHaveTheirEnds() {
        OutStation x = newOne(3);
        for (int c = 1; c <= 3; c++) {
            int of = c;
            Expect.dueNoPlace("an empty class", () -> x.event(of, 0, 0));
            x.sort(true, c, c);
            for (int i = 1; i <= c; i++) {
                x.analog(c, 10 * c + i);
            }
            for (int k = 0; k < c; k++) {
                Expect.due("its sort", x.event(c, k, 0), 1);
                Expect.due("its number", x.event(c, k, 1), c);
                Expect.due("its value", x.event(c, k, 2), 10 * c + k + 1);
            }
            int[] wrong = {-1, c, c + 1, 40, Integer.MIN_VALUE, Integer.MAX_VALUE};
            for (int k : wrong) {
                Expect.dueNoPlace("event " + k, () -> x.event(of, k, 0));
            }
        }
        int[] classes = {-1, 0, 4, Integer.MIN_VALUE, Integer.MAX_VALUE};
        for (int c : classes) {
            Expect.dueNoPlace("class " + c, () -> x.event(c, 0, 0));
        }
    }

    private static void noSuchWhat() {
        OutStation x = newOne(3);
        x.sort(false, 9, 1);
        x.binary(9, true);
        Expect.due("a binary's sort", x.event(1, 0, 0), 0);
        Expect.due("its number", x.event(1, 0, 1), 9);
        Expect.due("its value", x.event(1, 0, 2), 1);
        int[] wrong = {-1, 3, Integer.MIN_VALUE, Integer.MAX_VALUE};
        for (int what : wrong) {
            Expect.dueNoPlace("what " + what, () -> x.event(1, 0, what));
        }
    }
}
