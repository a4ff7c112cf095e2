import java.util.Arrays;

/** The other end of the line: makes frames, feeds them to an outstation and reads what it sent. */
final class Master {
    static final int ADDRESS = 4;
    static final int MASTER = 3;

    final OutStation station;
    private int segment = 0;
    private int calls = 0;

    Master(OutStation station) {
        this.station = station;
    }

    static Master of(int size, int timeout) {
        return new Master(new OutStation(ADDRESS, MASTER, size, timeout));
    }

    /** Another way than the program's: the polynomial not mirrored, the bits turned round in the end. */
    static int check(int... bytes) {
        int c = 0;
        for (int b : bytes) {
            for (int bit = 0; bit < 8; bit++) {
                int top = (c >> 15 & 1) ^ (b >> bit & 1);
                c = c << 1 & 0xFFFF;
                if (top == 1) {
                    c ^= 0x3D65;
                }
            }
        }
        return ~(Integer.reverse(c) >>> 16) & 0xFFFF;
    }

    static int[] join(int[]... parts) {
        int length = 0;
        for (int[] part : parts) {
            length += part.length;
        }
        int[] all = new int[length];
        int at = 0;
        for (int[] part : parts) {
            System.arraycopy(part, 0, all, at, part.length);
            at += part.length;
        }
        return all;
    }

    static int[] bytes(int... list) {
        return list;
    }

    /** So many bytes from a first one on, each one more. */
    static int[] ramp(int first, int n) {
        int[] list = new int[n];
        for (int i = 0; i < n; i++) {
            list[i] = first + i & 0xFF;
        }
        return list;
    }

    private static int[] withCheck(int... part) {
        int c = check(part);
        return join(part, bytes(c & 0xFF, c >> 8));
    }

    static int[] frameOf(int control, int to, int from, int... data) {
        int[] all = withCheck(0x05, 0x64, 5 + data.length, control, to & 0xFF, to >> 8, from & 0xFF, from >> 8);
        for (int i = 0; i < data.length; i += 16) {
            all = join(all, withCheck(Arrays.copyOfRange(data, i, Math.min(i + 16, data.length))));
        }
        return all;
    }

    /** A frame from this master to its outstation. */
    static int[] frame(int control, int... data) {
        return frameOf(control, ADDRESS, MASTER, data);
    }

    /** What an outstation's answer on the link looks like. */
    static int[] reply(int control) {
        return frameOf(control, MASTER, ADDRESS);
    }

    /** What an object answers beyond 512 calls is free: no test may build on it. */
    private void countCalls(int more) {
        calls += more;
        if (calls > 512) {
            Expect.report("a test makes more calls on one object than the document promises");
        }
    }

    /** Feeds all the bytes, at most so many a call: how many frames were good. */
    int feedBy(int most, int... list) {
        int good = 0;
        for (int from = 0; from < list.length; from += most) {
            int n = Math.min(most, list.length - from);
            int[] words = new int[5];
            for (int i = 0; i < n; i++) {
                words[i / 4] |= (list[from + i] & 0xFF) << 24 - 8 * (i % 4);
            }
            countCalls(1);
            good += station.feed(words[0], words[1], words[2], words[3], words[4], n);
        }
        return good;
    }

    int feed(int... list) {
        return feedBy(20, list);
    }

    int[] peek() {
        int[] list = new int[station.count(0)];
        countCalls(1 + list.length);
        for (int i = 0; i < list.length; i++) {
            list[i] = station.sent(i);
        }
        return list;
    }

    int[] take() {
        int[] list = peek();
        countCalls(1);
        Expect.due("take()", station.take(), list.length);
        return list;
    }

    /** How many frames of each kind there were, and how many bytes wait. */
    void dueFrames(int good, int bad, int foreign, int waiting) {
        countCalls(4);
        Expect.due("good frames", station.count(1), good);
        Expect.due("bad frames", station.count(2), bad);
        Expect.due("foreign frames", station.count(3), foreign);
        Expect.due("bytes that wait", station.count(6), waiting);
    }

    /** Takes one segment in an unconfirmed frame: its first byte, and what it adds. */
    void segment(int head, int... rest) {
        Expect.due("good frames with a segment", feed(frame(0xC4, join(bytes(head), rest))), 1);
    }

    void dueRequests(String what, int want) {
        countCalls(1);
        Expect.due(what, station.count(4), want);
    }

    /** Sends a fragment in one unconfirmed frame. */
    void send(int... fragment) {
        segment = segment + 1 & 0x3F;
        Expect.due("good frames with a request", feed(frame(0xC4, join(bytes(0xC0 | segment), fragment))), 1);
    }

    /** Sends a fragment: the whole answer to it, without the frame; nothing if there is none. */
    int[] ask(int... fragment) {
        countCalls(1);
        station.take();
        send(fragment);
        return unpack(take());
    }

    /** The fragment inside one answer's frame, whose form is looked at. */
    static int[] unpack(int[] frame) {
        if (frame.length == 0) {
            return frame;
        }
        int n = frame[2] - 5;
        int[] data = new int[n];
        for (int i = 0; i < n; i++) {
            data[i] = frame[10 + i + 2 * (i / 16)];
        }
        Expect.due("an answer's frame", frame, frameOf(0x44, MASTER, ADDRESS, data));
        Expect.due("an answer's first byte, bits 7 and 6", data[0] & 0xC0, 0xC0);
        return Arrays.copyOfRange(data, 1, n);
    }

    /** The first bytes of an answer: control, 81 and the two indications. */
    int[] askHead(int... fragment) {
        int[] answer = ask(fragment);
        return Arrays.copyOf(answer, Math.min(4, answer.length));
    }

    /** The objects of an answer. */
    int[] askObjects(int... fragment) {
        int[] answer = ask(fragment);
        return Arrays.copyOfRange(answer, Math.min(4, answer.length), answer.length);
    }

    void clearRestarted(int sequence) {
        ask(0xC0 | sequence, 2, 80, 1, 0, 7, 7, 0);
    }

    /** One relay's twelve bytes. */
    static int[] relay(int k, int code, int status) {
        return bytes(k, code, 1, 100, 0, 0, 0, 200, 0, 0, 0, status);
    }

    static int[] control(int sequence, int function, int[]... relays) {
        return join(bytes(0xC0 | sequence, function, 12, 1, 0x17, relays.length), join(relays));
    }

    /** The statuses in the answer to a control request whose other bytes are looked at. */
    int[] statuses(int[] request) {
        int[] answer = ask(request);
        int n = request[5];
        int[] statuses = new int[n];
        if (answer.length != request.length + 2) {
            Expect.report("an answer to a control request has " + answer.length + " bytes");
            return statuses;
        }
        int[] want = request.clone();
        for (int i = 0; i < n; i++) {
            statuses[i] = answer[8 + 12 * i + 11];
            want[6 + 12 * i + 11] = statuses[i];
        }
        Expect.due("the same bytes but for the statuses", Arrays.copyOfRange(answer, 4, answer.length),
                Arrays.copyOfRange(want, 2, want.length));
        return statuses;
    }
}
