import java.util.ArrayList;
import java.util.Arrays;
import java.util.List;

/**
 * A plain second program of the same face, written from the document with lists and the Java library
 * and without a thought of speed or room: ModelTest runs both side by side.
 */
final class Model {
    private record Event(boolean analog, int number, int value) {
    }

    private final int address;
    private final int master;
    private final int size;
    private final int timeout;

    private final List<Integer> row = new ArrayList<>();
    private final List<Integer> out = new ArrayList<>();
    private boolean reset = false;
    private int nextCount = 0;
    private List<Integer> fragment = null;
    private int latestNumber = 0;
    private int answerNumber = 0;

    private List<Integer> answeredRequest = null;
    private List<Integer> answerSent = null;
    private List<Integer> selected = null;
    private int selectSequence = 0;
    private int selectTick = 0;
    private int awaited = -1;
    private final List<Event> awaitedEvents = new ArrayList<>();

    private final List<List<Event>> classes = new ArrayList<>();
    private final boolean[] binaries = new boolean[16];
    private final int[] analogs = new int[16];
    private final int[] latestEvent = new int[16];
    private final int[] bands = new int[16];
    private final int[][] sorts = new int[2][16];
    private final int[] relays = new int[8];
    private final int[] counts = new int[13];

    Model(int address, int master, int size, int timeout) {
        this.address = address & 0xFFFF;
        this.master = master & 0xFFFF;
        this.size = size < 1 ? 1 : size > 40 ? 40 : size;
        this.timeout = timeout < 0 ? 0 : timeout > 10000 ? 10000 : timeout;
        for (int c = 0; c < 4; c++) {
            classes.add(new ArrayList<>());
        }
        Arrays.fill(relays, -1);
        counts[10] = 1;
    }

    private static void place(boolean there) {
        if (!there) {
            throw new IndexOutOfBoundsException();
        }
    }

    private static void number(boolean such) {
        if (!such) {
            throw new IllegalArgumentException();
        }
    }

    int feed(int a, int b, int c, int d, int e, int n) {
        number(n >= 1 && n <= 20);
        int[] words = {a, b, c, d, e};
        int before = counts[1];
        for (int i = 0; i < n; i++) {
            row.add(words[i / 4] >>> 24 - i % 4 * 8 & 0xFF);
            lookAtRow();
        }
        return counts[1] - before;
    }

    void tick(int n) {
        number(n >= 0 && (long) counts[12] + n <= 1000000000L);
        counts[12] += n;
    }

    boolean binary(int k, boolean on) {
        place(k >= 0 && k < 16);
        if (binaries[k] == on) {
            return false;
        }
        binaries[k] = on;
        addEvent(sorts[0][k], new Event(false, k, on ? 1 : 0));
        return true;
    }

    boolean analog(int k, int v) {
        place(k >= 0 && k < 16);
        number(v == (short) v);
        analogs[k] = v;
        int c = sorts[1][k];
        if (c != 0 && Math.abs(v - latestEvent[k]) > bands[k]) {
            latestEvent[k] = v;
            addEvent(c, new Event(true, k, v));
            return true;
        }
        return false;
    }

    private void addEvent(int c, Event event) {
        if (c == 0) {
            return;
        }
        List<Event> list = classes.get(c);
        list.add(event);
        if (list.size() > size) {
            list.remove(0);
            counts[11] = 1;
        }
    }

    boolean sort(boolean analog, int k, int c) {
        place(k >= 0 && k < 16 && c >= 0 && c < 4);
        int[] of = sorts[analog ? 1 : 0];
        int old = of[k];
        of[k] = c;
        return old != c;
    }

    void band(int k, int v) {
        place(k >= 0 && k < 16);
        number(v >= 0 && v <= 65535);
        bands[k] = v;
    }

    int sent(int i) {
        place(i >= 0 && i < out.size());
        return out.get(i);
    }

    int take() {
        int n = out.size();
        out.clear();
        return n;
    }

    int relay(int k) {
        place(k >= 0 && k < 8);
        return relays[k];
    }

    int event(int c, int k, int what) {
        place(c >= 1 && c <= 3 && k >= 0 && k < classes.get(c).size() && what >= 0 && what <= 2);
        Event event = classes.get(c).get(k);
        return what == 0 ? event.analog ? 1 : 0 : what == 1 ? event.number : event.value;
    }

    int check(int value, int n) {
        number(n >= 0 && n <= 300);
        return Master.check(Master.ramp(value, n));
    }

    int count(int what) {
        place(what >= 0 && what <= 12);
        return switch (what) {
            case 0 -> out.size();
            case 6 -> row.size();
            case 7, 8, 9 -> classes.get(what - 6).size();
            default -> counts[what];
        };
    }

    private static int[] array(List<Integer> list) {
        return list.stream().mapToInt(i -> i).toArray();
    }

    private int[] part(int from, int to) {
        return array(row.subList(from, to));
    }

    private boolean checkAt(int from, int to) {
        return Master.check(part(from, to)) == row.get(to) + 256 * row.get(to + 1);
    }

    private void lookAtRow() {
        while (row.size() >= 2) {
            if (row.get(0) != 0x05 || row.get(1) != 0x64) {
                row.remove(0);
                continue;
            }
            if (row.size() < 10) {
                return;
            }
            if (row.get(2) < 5 || !checkAt(0, 8)) {
                row.remove(0);
                continue;
            }
            int data = row.get(2) - 5;
            int whole = 10 + data + (data + 15) / 16 * 2;
            if (row.size() < whole) {
                return;
            }
            wholeFrame(whole);
        }
    }

    private void wholeFrame(int whole) {
        List<Integer> data = new ArrayList<>();
        boolean bad = false;
        for (int at = 10; at < whole; at += 18) {
            int end = Math.min(at + 16, whole - 2);
            bad |= !checkAt(at, end);
            data.addAll(row.subList(at, end));
        }
        int control = row.get(3);
        int to = row.get(4) + 256 * row.get(5);
        int from = row.get(6) + 256 * row.get(7);
        row.subList(0, whole).clear();
        if (bad) {
            counts[2]++;
        } else if (to != address || from != master || control < 0xC0) {
            counts[3]++;
        } else {
            counts[1]++;
            good(control, data);
        }
    }

    private void good(int control, List<Integer> data) {
        int code = control % 16;
        if (code == 0) {
            reset = true;
            nextCount = 1;
            send(0);
        } else if ((code == 2 || code == 3) && !reset) {
            send(1);
        } else if (code == 2 || code == 3) {
            send(0);
            if (control / 32 % 2 == nextCount) {
                nextCount ^= 1;
                if (code == 3) {
                    data(data);
                }
            }
        } else if (code == 4) {
            data(data);
        } else {
            send(code == 9 ? 11 : 15);
        }
    }

    private boolean send(int control, int... data) {
        int[] frame = Master.frameOf(control, master, address, data);
        if (out.size() + frame.length > 4000) {
            return false;
        }
        for (int b : frame) {
            out.add(b);
        }
        return true;
    }

    private void data(List<Integer> data) {
        if (data.isEmpty()) {
            fragment = null;
            return;
        }
        int head = data.get(0);
        if (head / 64 % 2 == 1) {
            fragment = new ArrayList<>();
        } else if (fragment == null || head % 64 != (latestNumber + 1) % 64) {
            fragment = null;
            return;
        }
        latestNumber = head % 64;
        fragment.addAll(data.subList(1, data.size()));
        if (fragment.size() > 249) {
            fragment = null;
            return;
        }
        if (head >= 128) {
            List<Integer> whole = fragment;
            fragment = null;
            if (whole.size() >= 2 && whole.get(0) >= 0xC0) {
                request(whole);
            }
        }
    }

    private void request(List<Integer> request) {
        counts[4]++;
        if (request.equals(answeredRequest)) {
            sendAnswer();
            return;
        }
        int sequence = request.get(0) % 16;
        int function = request.get(1);
        if (function == 0) {
            confirm(sequence);
            return;
        }
        if (function != 4) {
            selected = null;
        }
        awaited = -1;
        awaitedEvents.clear();
        List<Integer> objects = new ArrayList<>();
        List<Integer> rest = request.subList(2, request.size());
        int faults = switch (function) {
            case 1 -> read(rest, objects);
            case 2 -> write(rest);
            case 3, 4, 5 -> control(function, sequence, rest, objects);
            default -> 1;
        };
        if (!awaitedEvents.isEmpty()) {
            awaited = sequence;
        }
        int first = counts[10] * 0x80;
        for (int c = 1; c <= 3; c++) {
            for (Event event : classes.get(c)) {
                if (!inAnswer(event)) {
                    first |= 1 << c;
                }
            }
        }
        List<Integer> answer = new ArrayList<>(List.of(0xC0 + sequence + (awaitedEvents.isEmpty() ? 0 : 0x20), 0x81,
                first, faults + 8 * counts[11]));
        answer.addAll(objects);
        answeredRequest = List.copyOf(request);
        answerSent = answer;
        sendAnswer();
    }

    private void sendAnswer() {
        int[] data = Master.join(Master.bytes(0xC0 + answerNumber), array(answerSent));
        if (send(0x44, data)) {
            answerNumber = (answerNumber + 1) % 64;
        }
    }

    private boolean inAnswer(Event event) {
        for (Event other : awaitedEvents) {
            if (other == event) {
                return true;
            }
        }
        return false;
    }

    private void confirm(int sequence) {
        if (awaited != sequence) {
            return;
        }
        for (List<Event> list : classes) {
            list.removeIf(this::inAnswer);
        }
        awaitedEvents.clear();
        awaited = -1;
        counts[11] = 0;
    }

    private int read(List<Integer> rest, List<Integer> objects) {
        int faults = 0;
        boolean[] has = new boolean[2];
        for (int at = 0; at < rest.size(); at += 3) {
            if (rest.size() - at < 3 || rest.get(at + 2) != 6) {
                return faults | 4;
            }
            String object = rest.get(at) + " " + rest.get(at + 1);
            switch (object) {
                case "60 1" -> {
                    readBinaries(objects, has);
                    readAnalogs(objects, has);
                }
                case "1 0", "1 2" -> readBinaries(objects, has);
                case "30 0", "30 2" -> readAnalogs(objects, has);
                case "60 2", "60 3", "60 4" -> readEvents(classes.get(rest.get(at + 1) - 1), objects);
                default -> faults |= 2;
            }
        }
        return faults;
    }

    private void readBinaries(List<Integer> objects, boolean[] has) {
        if (!has[0] && 4 + objects.size() + 21 <= 249) {
            has[0] = true;
            objects.addAll(List.of(1, 2, 0, 0, 15));
            for (boolean on : binaries) {
                objects.add(on ? 0x81 : 0x01);
            }
        }
    }

    private void readAnalogs(List<Integer> objects, boolean[] has) {
        if (!has[1] && 4 + objects.size() + 53 <= 249) {
            has[1] = true;
            objects.addAll(List.of(30, 2, 0, 0, 15));
            for (int value : analogs) {
                objects.addAll(List.of(1, value & 0xFF, value >> 8 & 0xFF));
            }
        }
    }

    private void readEvents(List<Event> list, List<Integer> objects) {
        int headAt = -1;
        boolean headAnalog = false;
        for (Event event : list) {
            if (inAnswer(event)) {
                continue;
            }
            List<Integer> more = new ArrayList<>();
            boolean head = headAt < 0 || headAnalog != event.analog;
            if (head) {
                more.addAll(event.analog ? List.of(32, 2, 0x17, 0) : List.of(2, 1, 0x17, 0));
            }
            more.add(event.number);
            if (event.analog) {
                more.addAll(List.of(1, event.value & 0xFF, event.value >> 8 & 0xFF));
            } else {
                more.add(event.value == 1 ? 0x81 : 0x01);
            }
            if (4 + objects.size() + more.size() > 249) {
                return;
            }
            if (head) {
                headAt = objects.size() + 3;
                headAnalog = event.analog;
            }
            objects.addAll(more);
            objects.set(headAt, objects.get(headAt) + 1);
            awaitedEvents.add(event);
        }
    }

    private int write(List<Integer> rest) {
        if (!rest.equals(List.of(80, 1, 0, 7, 7, 0))) {
            return 4;
        }
        counts[10] = 0;
        return 0;
    }

    private int control(int function, int sequence, List<Integer> rest, List<Integer> objects) {
        if (rest.size() < 4 || !rest.subList(0, 3).equals(List.of(12, 1, 0x17)) || rest.get(3) < 1 || rest.get(3) > 8
                || rest.size() != 4 + 12 * rest.get(3)) {
            return 4;
        }
        int forAll = 0;
        if (function == 4) {
            if (!rest.equals(selected) || sequence != (selectSequence + 1) % 16) {
                forAll = 2;
            } else if (counts[12] - selectTick > timeout) {
                forAll = 1;
            }
            selected = null;
        }
        objects.addAll(rest);
        boolean kept = function == 3;
        for (int at = 4; at < rest.size(); at += 12) {
            int k = rest.get(at);
            int code = rest.get(at + 1);
            int status = k > 7 || code != 3 && code != 4 ? 4 : forAll;
            objects.set(at + 11, status);
            if (status != 0) {
                kept = false;
            } else if (function != 3) {
                relays[k] = code;
                counts[5]++;
            }
        }
        if (kept) {
            selected = List.copyOf(rest);
            selectSequence = sequence;
            selectTick = counts[12];
        }
        return 0;
    }
}
