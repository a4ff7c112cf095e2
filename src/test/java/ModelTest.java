import java.util.Random;

/** All promises: long runs of calls, made by a fixed seed, beside the plain program Model. */
public final class ModelTest {
    private static final int RUNS = 6000;
    private static final int MOST_CALLS = 512;

    private final Random random;
    private final OutStation station;
    private final Model model;
    private final String run;
    private int calls = 0;

    private int linkCount = 1;
    private int sequence = 0;
    private int segment = 0;
    private int[] latest = {0xC0, 1};
    private int[] selected = Master.control(0, 3, Master.relay(1, 3, 0));
    private final boolean takesOften;
    private final int to;
    private final int from;

    private ModelTest(int seed) {
        random = new Random(seed);
        run = "run " + seed + ": ";
        int address = random.nextInt(4) == 0 ? random.nextInt() : 4;
        int master = random.nextInt(4) == 0 ? random.nextInt() : 3;
        int size = random.nextInt(50) - 4;
        int timeout = random.nextInt(30) - 4;
        takesOften = random.nextInt(3) > 0;
        station = new OutStation(address, master, size, timeout);
        model = new Model(address, master, size, timeout);
        to = address & 0xFFFF;
        from = master & 0xFFFF;
    }

    public static void main(String[] args) {
        for (int seed = 1; seed <= RUNS; seed++) {
            new ModelTest(seed).runAll();
        }
        Expect.end();
    }

    private interface Answer {
        long of();
    }

    private static long answerOf(Answer answer) {
        try {
            return answer.of();
        } catch (IllegalArgumentException e) {
            return Long.MIN_VALUE;
        } catch (IndexOutOfBoundsException e) {
            return Long.MIN_VALUE + (e.getClass() == IndexOutOfBoundsException.class ? 1 : 2);
        } catch (RuntimeException e) {
            return Long.MIN_VALUE + 3;
        }
    }

    private void same(String call, Answer got, Answer want) {
        calls++;
        if (calls <= MOST_CALLS) {
            Expect.due(run + call, answerOf(got), answerOf(want));
        }
    }

    private static long bit(boolean b) {
        return b ? 1 : 0;
    }

    private void runAll() {
        setUp();
        int actions = 60 + random.nextInt(300);
        while (calls < actions) {
            act();
        }
        for (int what = 0; what < 13; what++) {
            count(what);
        }
        for (int k = 0; k < 8; k++) {
            relay(k);
        }
        int last = model.count(0);
        for (int i = last - 1; i >= 0 && calls < MOST_CALLS; i--) {
            sent(i);
        }
    }

    private void setUp() {
        int n = random.nextInt(12);
        for (int i = 0; i < n; i++) {
            sort(random.nextBoolean(), random.nextInt(16), random.nextInt(4));
        }
    }

    private void act() {
        int kind = random.nextInt(100);
        if (kind < 22) {
            int burst = random.nextInt(4) == 0 ? 12 : 1;
            for (int i = 0; i < burst; i++) {
                changePoint();
            }
        } else if (kind < 26) {
            sort(random.nextBoolean(), random.nextInt(18) - 1, random.nextInt(6) - 1);
        } else if (kind < 28) {
            band(random.nextInt(18) - 1, random.nextInt(10) == 0 ? random.nextInt(70000) - 2000 : random.nextInt(40));
        } else if (kind < 33) {
            tick(random.nextInt(40) == 0 ? random.nextInt() : random.nextInt(12) - 1);
        } else if (kind < 39) {
            count(random.nextInt(15) - 1);
        } else if (kind < 43) {
            int n = model.count(0);
            sent(random.nextInt(n + 2) - 1);
        } else if (kind < 46) {
            if (takesOften) {
                same("take()", station::take, model::take);
            }
        } else if (kind < 49) {
            relay(random.nextInt(10) - 1);
        } else if (kind < 54) {
            event(random.nextInt(5), random.nextInt(8) - 1, random.nextInt(5) - 1);
        } else if (kind < 55) {
            int value = random.nextInt();
            int n = random.nextInt(310) - 4;
            same("check", () -> station.check(value, n), () -> model.check(value, n));
        } else {
            line();
        }
    }

    private void changePoint() {
        int k = random.nextInt(40) == 0 ? random.nextInt(20) - 2 : random.nextInt(16);
        if (random.nextBoolean()) {
            boolean on = random.nextBoolean();
            same("binary", () -> bit(station.binary(k, on)), () -> bit(model.binary(k, on)));
        } else {
            int v = random.nextInt(10) == 0 ? random.nextInt(70000) - 35000 : random.nextInt(100) - 50;
            same("analog", () -> bit(station.analog(k, v)), () -> bit(model.analog(k, v)));
        }
    }

    private void sort(boolean analog, int k, int c) {
        same("sort", () -> bit(station.sort(analog, k, c)), () -> bit(model.sort(analog, k, c)));
    }

    private void band(int k, int v) {
        same("band", () -> {
            station.band(k, v);
            return 0;
        }, () -> {
            model.band(k, v);
            return 0;
        });
    }

    private void tick(int n) {
        same("tick", () -> {
            station.tick(n);
            return 0;
        }, () -> {
            model.tick(n);
            return 0;
        });
    }

    private void count(int what) {
        same("count(" + what + ")", () -> station.count(what), () -> model.count(what));
    }

    private void sent(int i) {
        same("sent(" + i + ")", () -> station.sent(i), () -> model.sent(i));
    }

    private void relay(int k) {
        same("relay(" + k + ")", () -> station.relay(k), () -> model.relay(k));
    }

    private void event(int c, int k, int what) {
        same("event", () -> station.event(c, k, what), () -> model.event(c, k, what));
    }

    private void feed(int... bytes) {
        int at = 0;
        while (at < bytes.length) {
            int n = Math.min(bytes.length - at, random.nextInt(3) == 0 ? 1 + random.nextInt(20) : 20);
            int[] w = new int[5];
            for (int i = 0; i < 20; i++) {
                int b = i < n ? bytes[at + i] : random.nextInt(256);
                w[i / 4] |= (b & 0xFF) << 24 - 8 * (i % 4);
            }
            same("feed", () -> station.feed(w[0], w[1], w[2], w[3], w[4], n),
                    () -> model.feed(w[0], w[1], w[2], w[3], w[4], n));
            at += n;
        }
    }

    private void line() {
        int kind = random.nextInt(40);
        if (kind == 0) {
            int n = random.nextInt(26) - 3;
            int w = random.nextBoolean() ? 0x05640564 : random.nextInt();
            same("feed", () -> station.feed(w, w, w, w, w, n), () -> model.feed(w, w, w, w, w, n));
        } else if (kind < 4) {
            int[] odd = {0xC0, 0xE2, 0xC2, 0xC9, 0xC1, 0x89, 0x44, 0xE0, 0xF5, 0xE3, 0xC4};
            int control = odd[random.nextInt(odd.length)];
            linkCount = control % 16 == 0 ? 1 : linkCount;
            feed(spoil(Master.frameOf(control, to, from, Master.ramp(random.nextInt(256), random.nextInt(3)))));
        } else if (kind == 4) {
            feed(Master.frameOf(0xC4, random.nextInt(6), random.nextInt(6), 0xC0, 0xC1, 1));
        } else {
            sendFragment(fragment());
        }
    }

    private int[] spoil(int[] frame) {
        if (random.nextInt(25) == 0) {
            frame[random.nextInt(frame.length)] ^= 1 << random.nextInt(8);
        }
        return frame;
    }

    /** In one or several frames, confirmed or not, sometimes with a fault in the numbers. */
    private void sendFragment(int[] fragment) {
        int pieces = random.nextInt(5) == 0 ? 1 + random.nextInt(4) : 1;
        int each = Math.min(249, (fragment.length + pieces - 1) / pieces);
        for (int at = 0; at < fragment.length; at += each) {
            int end = Math.min(at + each, fragment.length);
            int head = (segment & 0x3F) | (at == 0 ? 0x40 : 0) | (end == fragment.length ? 0x80 : 0);
            segment += random.nextInt(30) == 0 ? 2 : 1;
            int[] data = Master.join(Master.bytes(head), java.util.Arrays.copyOfRange(fragment, at, end));
            boolean confirmed = random.nextInt(3) == 0;
            int control = confirmed ? 0xD3 | linkCount << 5 : 0xC4;
            linkCount ^= confirmed ? 1 : 0;
            int[] frame = spoil(Master.frameOf(control, to, from, data));
            feed(frame);
            if (random.nextInt(15) == 0) {
                feed(frame);
            }
        }
    }

    private int[] fragment() {
        int kind = random.nextInt(20);
        sequence = sequence + 1 & 15;
        if (kind == 0) {
            return latest;
        } else if (kind < 5) {
            return Master.bytes(0xC0 | (random.nextInt(6) == 0 ? random.nextInt(16) : latest[0] & 15), 0);
        } else if (kind < 11) {
            latest = readRequest();
        } else if (kind == 11) {
            latest = Master.bytes(0xC0 | sequence, 2, 80, 1, 0, 7, 7, random.nextInt(3) / 2);
        } else if (kind < 14) {
            latest = controlRequest(3);
            selected = latest;
        } else if (kind < 17) {
            latest = selected.clone();
            latest[0] = 0xC0 | (selected[0] + (random.nextInt(5) == 0 ? 2 : 1) & 15);
            latest[1] = 4;
        } else if (kind < 19) {
            latest = controlRequest(3 + random.nextInt(3));
        } else {
            latest = Master.join(Master.bytes(random.nextInt(256), random.nextInt(8)),
                    Master.ramp(random.nextInt(256), random.nextInt(random.nextInt(4) == 0 ? 260 : 20)));
        }
        if (random.nextInt(12) == 0) {
            latest = java.util.Arrays.copyOf(latest, Math.max(1, latest.length - 1 + random.nextInt(3)));
        }
        if (random.nextInt(15) == 0) {
            latest[random.nextInt(latest.length)] ^= 1 << random.nextInt(4);
        }
        return latest;
    }

    private int[] readRequest() {
        int[][] objects = {{60, 1, 6}, {60, 2, 6}, {60, 3, 6}, {60, 4, 6}, {60, 2, 6}, {60, 3, 6}, {60, 4, 6}, {1, 2, 6},
            {1, 0, 6}, {30, 0, 6}, {30, 2, 6}, {60, 5, 6}, {2, 1, 6}};
        int[] request = Master.bytes(0xC0 | sequence, 1);
        int n = 1 + random.nextInt(6);
        for (int i = 0; i < n; i++) {
            request = Master.join(request, objects[random.nextInt(objects.length)]);
        }
        return request;
    }

    private int[] controlRequest(int function) {
        int[][] relays = new int[1 + random.nextInt(random.nextInt(4) == 0 ? 9 : 2)][];
        for (int i = 0; i < relays.length; i++) {
            boolean odd = random.nextInt(12) == 0;
            relays[i] = Master.relay(odd ? random.nextInt(256) : random.nextInt(8),
                    odd ? random.nextInt(8) : 3 + random.nextInt(2), random.nextInt(3) / 2);
        }
        return Master.control(sequence, function, relays);
    }
}
