/**
 * An outstation on a line of bytes: frames come in by {@link #feed}, what it answers stands in
 * {@link #sent} till {@link #take}. The points change by {@link #binary} and {@link #analog}.
 */
public final class OutStation {
    public static final int NONE = -1;

    private static final int FED_AT_MOST = 20;
    private static final int MOST_TICKS = 1000000000;
    private static final int MOST_CHECKED = 300;
    private static final int MOST_EVENTS = 40;
    private static final int LONGEST_TIMEOUT = 10000;
    private static final int POINTS = 16;
    private static final int RELAYS = 8;
    private static final int CLASSES = 3;

    private static final int HEAD_BYTES = 10;
    private static final int HEAD_CHECKED = 8;
    private static final int BLOCK_BYTES = 16;
    private static final int START_ONE = 0x05;
    private static final int START_TWO = 0x64;
    private static final int LEAST_LENGTH = 5;
    private static final int MOST_DATA = 250;
    private static final int FRAGMENT_BYTES = 249;

    private static final int WAITING = 0;
    private static final int BAD = 1;
    private static final int FOREIGN = 2;
    private static final int GOOD = 3;

    private static final int CONFIRM = 0;
    private static final int READ = 1;
    private static final int WRITE = 2;
    private static final int SELECT = 3;
    private static final int OPERATE = 4;
    private static final int DIRECT = 5;

    private static final int NO_FUNCTION = 1;
    private static final int NO_OBJECT = 2;
    private static final int OTHER_FAULT = 4;
    private static final int EVENTS_LOST = 8;
    private static final int RESTARTED = 0x80;

    private static final int BINARY = 0;
    private static final int ANALOG = 1;

    private final Incoming incoming;
    private final Link link;
    private final Assembly assembly;
    private final Answer answer;
    private final Outgoing outgoing;
    private final Points points;
    private final Events events;
    private final Relays relays;
    private final int[] frames;
    private int requests;
    private int ticks;
    private boolean restarted;

    public OutStation(int address, int master, int size, int timeout) {
        incoming = new Incoming(address & 0xFFFF, master & 0xFFFF);
        link = new Link();
        assembly = new Assembly();
        answer = new Answer();
        outgoing = new Outgoing(address & 0xFFFF, master & 0xFFFF);
        points = new Points();
        events = new Events(Math.max(1, Math.min(MOST_EVENTS, size)));
        relays = new Relays(Math.max(0, Math.min(LONGEST_TIMEOUT, timeout)));
        frames = new int[GOOD + 1];
        requests = 0;
        ticks = 0;
        restarted = true;
    }

    /** The first n of the 20 bytes of a, b, c, d, e come: how many frames were good. */
    public int feed(int a, int b, int c, int d, int e, int n) throws IllegalArgumentException {
        if (n < 1 || n > FED_AT_MOST) {
            throw new IllegalArgumentException("n is not 1 .. 20");
        }
        incoming.addWord(a, n);
        incoming.addWord(b, n - 4);
        incoming.addWord(c, n - 8);
        incoming.addWord(d, n - 12);
        incoming.addWord(e, n - 16);
        int good = 0;
        for (int turn = 0; turn < Incoming.ROOM; turn++) {
            int kind = incoming.nextFrame();
            if (kind == WAITING) {
                break;
            }
            frames[kind]++;
            if (kind == GOOD) {
                good++;
                if (completesRequest() && needsNewAnswer(assembly.bytes(), assembly.size())) {
                    answerRequest(assembly.bytes(), assembly.size());
                }
            }
        }
        return good;
    }

    /** n ticks go by. */
    public void tick(int n) throws IllegalArgumentException {
        if (n < 0 || n > MOST_TICKS - ticks) {
            throw new IllegalArgumentException("no such number of ticks");
        }
        ticks += n;
    }

    /** Binary k is on or off: whether it changed. */
    public boolean binary(int k, boolean on) throws IndexOutOfBoundsException {
        if (!isPoint(k)) {
            throw new IndexOutOfBoundsException("no such binary");
        }
        if (!points.changeBinary(k, on)) {
            return false;
        }
        events.add(points.classOf(BINARY, k), BINARY, k, on ? 1 : 0);
        return true;
    }

    /** Analog k has the value v: whether that makes an event. */
    public boolean analog(int k, int v) throws IndexOutOfBoundsException, IllegalArgumentException {
        if (!isPoint(k)) {
            throw new IndexOutOfBoundsException("no such analog");
        }
        if (v < -32768 || v > 32767) {
            throw new IllegalArgumentException("the value is not -32768 .. 32767");
        }
        if (!points.changeAnalog(k, v)) {
            return false;
        }
        events.add(points.classOf(ANALOG, k), ANALOG, k, v);
        return true;
    }

    /** Point k has the class c from now on: whether it is another one. */
    public boolean sort(boolean analog, int k, int c) throws IndexOutOfBoundsException {
        if (!isPoint(k)) {
            throw new IndexOutOfBoundsException("no such point");
        }
        if (c < 0 || c > CLASSES) {
            throw new IndexOutOfBoundsException("no such class");
        }
        return points.changeClass(analog ? ANALOG : BINARY, k, c);
    }

    /** Analog k has the band v. */
    public void band(int k, int v) throws IndexOutOfBoundsException, IllegalArgumentException {
        if (!isPoint(k)) {
            throw new IndexOutOfBoundsException("no such analog");
        }
        if (v < 0 || v > 65535) {
            throw new IllegalArgumentException("the band is not 0 .. 65535");
        }
        points.changeBand(k, v);
    }

    /** Byte i of what was sent since the latest take(). */
    public int sent(int i) throws IndexOutOfBoundsException {
        if (i < 0 || i >= outgoing.size()) {
            throw new IndexOutOfBoundsException("no such byte");
        }
        return outgoing.byteAt(i);
    }

    /** What was sent is gone: how many bytes. */
    public int take() {
        int gone = outgoing.size();
        outgoing.empty();
        return gone;
    }

    /** The code with which relay k acted the latest time, or NONE. */
    public int relay(int k) throws IndexOutOfBoundsException {
        if (k < 0 || k >= RELAYS) {
            throw new IndexOutOfBoundsException("no such relay");
        }
        return relays.codeOf(k);
    }

    /** Event k of class c: what = 0 its sort (0 binary, 1 analog), 1 its number, 2 its value. */
    public int event(int c, int k, int what) throws IndexOutOfBoundsException {
        if (c < 1 || c > CLASSES) {
            throw new IndexOutOfBoundsException("no such class");
        }
        EventRow row = events.ofClass(c);
        if (k < 0 || k >= row.size()) {
            throw new IndexOutOfBoundsException("no such event");
        }
        switch (what) {
            case 0:
                return row.kindAt(k);
            case 1:
                return row.numberAt(k);
            case 2:
                return row.valueAt(k);
            default:
                throw new IndexOutOfBoundsException("no such what");
        }
    }

    /** The check of n bytes, each the lowest eight bits of value and its place from 0 added. */
    public int check(int value, int n) throws IllegalArgumentException {
        if (n < 0 || n > MOST_CHECKED) {
            throw new IllegalArgumentException("n is not 0 .. 300");
        }
        int c = 0;
        for (int i = 0; i < n; i++) {
            c = stirIn(c, (value + i) & 0xFF);
        }
        return c ^ 0xFFFF;
    }

    /** How many of what there are, by the document's list of 0 to 12. */
    public int count(int what) throws IndexOutOfBoundsException {
        switch (what) {
            case 0:
                return outgoing.size();
            case 1:
                return frames[GOOD];
            case 2:
                return frames[BAD];
            case 3:
                return frames[FOREIGN];
            case 4:
                return requests;
            case 5:
                return relays.acts();
            case 6:
                return incoming.size();
            case 7:
            case 8:
            case 9:
                return events.ofClass(what - 6).size();
            case 10:
                return restarted ? 1 : 0;
            case 11:
                return events.areLost() ? 1 : 0;
            case 12:
                return ticks;
            default:
                throw new IndexOutOfBoundsException("no such what");
        }
    }

    private static boolean isPoint(int k) {
        return k >= 0 && k < POINTS;
    }

    private static int stirIn(int c, int b) {
        int stirred = c ^ b;
        for (int bit = 0; bit < 8; bit++) {
            stirred = (stirred & 1) == 1 ? (stirred >>> 1) ^ 0xA6BC : stirred >>> 1;
        }
        return stirred;
    }

    /** The check of bytes[from] to bytes[to - 1]. */
    private static int checkOf(int[] bytes, int from, int to) {
        int c = 0;
        for (int i = from; i < to; i++) {
            c = stirIn(c, bytes[i]);
        }
        return c ^ 0xFFFF;
    }

    private static int frameLength(int dataLength) {
        int blocks = (dataLength + BLOCK_BYTES - 1) / BLOCK_BYTES;
        return HEAD_BYTES + dataLength + 2 * blocks;
    }

    /** Replies to the good frame that came, and takes its data: whether a request is whole then. */
    private boolean completesRequest() {
        int reply = link.replyTo(incoming.control());
        if (reply != NONE) {
            outgoing.sendReply(reply);
        }
        return link.takesData() && assembly.addSegment(incoming.data(), incoming.dataLength());
    }

    /** Settles a repeated request or a confirm at once: whether it is neither of these. */
    private boolean needsNewAnswer(int[] request, int n) {
        requests++;
        if (answer.isFor(request, n)) {
            outgoing.sendAnswer(answer);
            return false;
        }
        if (request[1] == CONFIRM) {
            events.confirm(request[0] & 0x0F);
            return false;
        }
        return true;
    }

    private void answerRequest(int[] request, int n) {
        int sequence = request[0] & 0x0F;
        int function = request[1];
        if (function != OPERATE) {
            relays.forgetSelected();
        }
        events.stopWaiting();
        answer.begin(request, n);
        switch (function) {
            case READ:
                read(request, n);
                break;
            case WRITE:
                write(request, n);
                break;
            case SELECT:
            case OPERATE:
            case DIRECT:
                control(function, request, n);
                break;
            default:
                answer.addFault(NO_FUNCTION);
                break;
        }
        if (answer.hasEvents()) {
            events.waitFor(sequence);
        }
        answer.finish(sequence, events.classesLeft() | (restarted ? RESTARTED : 0), events.areLost());
        outgoing.sendAnswer(answer);
    }

    private void read(int[] request, int n) {
        for (int at = 2; at < n; at += 3) {
            if (at + 3 > n || request[at + 2] != 6) {
                answer.addFault(OTHER_FAULT);
                return;
            }
            readObject(request[at], request[at + 1]);
        }
    }

    private void readObject(int group, int variation) {
        boolean plain = variation == 0 || variation == 2;
        if (group == 60 && variation == 1) {
            answer.putBinaries(points);
            answer.putAnalogs(points);
        } else if (group == 1 && plain) {
            answer.putBinaries(points);
        } else if (group == 30 && plain) {
            answer.putAnalogs(points);
        } else if (group == 60 && variation >= 2 && variation <= 4) {
            answer.putEvents(events.ofClass(variation - 1));
        } else {
            answer.addFault(NO_OBJECT);
        }
    }

    private void write(int[] request, int n) {
        boolean clears = n == 8 && request[2] == 80 && request[3] == 1 && request[4] == 0
                && request[5] == 7 && request[6] == 7 && request[7] == 0;
        if (clears) {
            restarted = false;
        } else {
            answer.addFault(OTHER_FAULT);
        }
    }

    private void control(int function, int[] request, int n) {
        if (!Relays.isWellFormed(request, n)) {
            answer.addFault(OTHER_FAULT);
            return;
        }
        int standing = function == OPERATE ? relays.standingOf(request, n, ticks) : 0;
        boolean allRight = true;
        answer.putRange(request, 2, Relays.FIRST_AT);
        for (int at = Relays.FIRST_AT; at + Relays.BYTES_EACH <= n; at += Relays.BYTES_EACH) {
            boolean known = Relays.isKnown(request[at], request[at + 1]);
            int status = known ? standing : Relays.NOT_KNOWN;
            answer.putRange(request, at, at + Relays.BYTES_EACH - 1);
            answer.put(status);
            allRight = allRight && status == 0;
            if (status == 0 && function != SELECT) {
                relays.act(request[at], request[at + 1]);
            }
        }
        if (function == OPERATE) {
            relays.forgetSelected();
        }
        if (function == SELECT && allRight) {
            relays.keepSelected(request, n, ticks);
        }
    }

    /** The row of bytes that came, and the latest whole frame that was taken off it. */
    private static final class Incoming {
        // A frame of 292 bytes may lack one byte when twenty more come.
        private static final int ROOM = 311;

        private final int address;
        private final int master;
        private final int[] row = new int[ROOM];
        private int length = 0;
        private final int[] data = new int[MOST_DATA];
        private int dataLength = 0;
        private int control = 0;

        Incoming(int address, int master) {
            this.address = address;
            this.master = master;
        }

        int size() {
            return length;
        }

        int control() {
            return control;
        }

        int[] data() {
            return data;
        }

        int dataLength() {
            return dataLength;
        }

        /** The first n (four at most) bytes of a word come, the highest first. */
        void addWord(int word, int n) {
            for (int i = 0; i < 4 && i < n; i++) {
                if (length < ROOM) {
                    row[length] = (word >>> (24 - 8 * i)) & 0xFF;
                    length++;
                }
            }
        }

        /** Takes the next frame off, with what stands before it: BAD, FOREIGN, GOOD; or WAITING. */
        int nextFrame() {
            for (int left = length; left >= 2; left--) {
                if (mayBeginFrame()) {
                    boolean whole = length >= HEAD_BYTES
                            && length >= frameLength(row[2] - LEAST_LENGTH);
                    return whole ? takeFrame() : WAITING;
                }
                drop(1);
            }
            return WAITING;
        }

        private boolean mayBeginFrame() {
            if (row[0] != START_ONE || row[1] != START_TWO) {
                return false;
            }
            return length < HEAD_BYTES || row[2] >= LEAST_LENGTH && isCheckRight(0, HEAD_CHECKED);
        }

        private int takeFrame() {
            control = row[3];
            boolean right = copyData(row[2] - LEAST_LENGTH);
            boolean ours = twoAt(4) == address && twoAt(6) == master && (control & 0xC0) == 0xC0;
            drop(frameLength(dataLength));
            if (!right) {
                return BAD;
            }
            return ours ? GOOD : FOREIGN;
        }

        /** Copies the data without its checks: whether all of these are right. */
        private boolean copyData(int n) {
            boolean right = true;
            int at = HEAD_BYTES;
            dataLength = n;
            for (int from = 0; from < n; from += BLOCK_BYTES) {
                int block = Math.min(BLOCK_BYTES, n - from);
                System.arraycopy(row, at, data, from, block);
                right = right && isCheckRight(at, at + block);
                at += block + 2;
            }
            return right;
        }

        private boolean isCheckRight(int from, int to) {
            return twoAt(to) == checkOf(row, from, to);
        }

        private int twoAt(int at) {
            return row[at] | row[at + 1] << 8;
        }

        private void drop(int n) {
            length -= n;
            System.arraycopy(row, n, row, 0, length);
        }
    }

    /** The link's memory: whether it was reset, and which count comes next. */
    private static final class Link {
        private boolean wasReset = false;
        private int nextCount = 0;
        private boolean taking = false;

        /** Whether the data of the frame that was replied to latest is taken. */
        boolean takesData() {
            return taking;
        }

        /** What a good frame with this control is answered with, or NONE. */
        int replyTo(int control) {
            taking = false;
            switch (control & 0x0F) {
                case 0:
                    wasReset = true;
                    nextCount = 1;
                    return 0;
                case 2:
                    return replyToCounted(control, false);
                case 3:
                    return replyToCounted(control, true);
                case 4:
                    taking = true;
                    return NONE;
                case 9:
                    return 11;
                default:
                    return 15;
            }
        }

        private int replyToCounted(int control, boolean withData) {
            if (!wasReset) {
                return 1;
            }
            if ((control >> 5 & 1) == nextCount) {
                nextCount = 1 - nextCount;
                taking = withData;
            }
            return 0;
        }
    }

    /** The fragment that segments are put together to. */
    private static final class Assembly {
        private final int[] fragment = new int[FRAGMENT_BYTES];
        private int length = 0;
        private boolean open = false;
        private int number = 0;

        int[] bytes() {
            return fragment;
        }

        int size() {
            return length;
        }

        /** Takes a segment: whether the fragment is a whole request with it. */
        boolean addSegment(int[] data, int n) {
            if (n < 1) {
                open = false;
                return false;
            }
            int head = data[0];
            beginOrGoOn((head & 0x40) != 0, head & 0x3F);
            if (length + n - 1 > FRAGMENT_BYTES) {
                open = false;
            }
            if (!open) {
                return false;
            }
            System.arraycopy(data, 1, fragment, length, n - 1);
            length += n - 1;
            if ((head & 0x80) == 0) {
                return false;
            }
            open = false;
            return length >= 2 && (fragment[0] & 0xC0) == 0xC0;
        }

        private void beginOrGoOn(boolean first, int itsNumber) {
            if (first) {
                open = true;
                length = 0;
            } else if (itsNumber != (number + 1 & 0x3F)) {
                open = false;
            }
            number = itsNumber;
        }
    }

    /** The latest answer and the request that it is for. */
    private static final class Answer {
        private static final int BINARIES_BYTES = 5 + POINTS;
        private static final int ANALOGS_BYTES = 5 + 3 * POINTS;
        private static final int EVENT_HEAD_BYTES = 4;
        private static final int MOST_UNDER_HEAD = 255;

        // The frame's first byte of data stands before the answer, so that both are sent as one row.
        private final int[] row = new int[1 + FRAGMENT_BYTES];
        private int length = 0;
        private final int[] request = new int[FRAGMENT_BYTES];
        private int requestLength = 0;
        private int faults = 0;
        private boolean withBinaries = false;
        private boolean withAnalogs = false;
        private boolean withEvents = false;

        boolean isFor(int[] bytes, int n) {
            if (n != requestLength) {
                return false;
            }
            for (int i = 0; i < n; i++) {
                if (bytes[i] != request[i]) {
                    return false;
                }
            }
            return true;
        }

        int[] bytes() {
            return row;
        }

        int size() {
            return length;
        }

        boolean hasEvents() {
            return withEvents;
        }

        void setNumber(int number) {
            row[0] = 0xC0 | number;
        }

        void begin(int[] bytes, int n) {
            System.arraycopy(bytes, 0, request, 0, n);
            requestLength = n;
            length = 5;
            faults = 0;
            withBinaries = false;
            withAnalogs = false;
            withEvents = false;
        }

        void addFault(int fault) {
            faults |= fault;
        }

        void finish(int sequence, int indications, boolean lost) {
            row[1] = 0xC0 | sequence | (withEvents ? 0x20 : 0);
            row[2] = 0x81;
            row[3] = indications;
            row[4] = faults | (lost ? EVENTS_LOST : 0);
        }

        void put(int b) {
            if (length < row.length) {
                row[length] = b & 0xFF;
                length++;
            }
        }

        void putRange(int[] bytes, int from, int to) {
            for (int i = from; i < to; i++) {
                put(bytes[i]);
            }
        }

        void putBinaries(Points points) {
            if (withBinaries || !hasRoom(BINARIES_BYTES)) {
                return;
            }
            withBinaries = true;
            putStaticHead(1);
            for (int k = 0; k < POINTS; k++) {
                put(binaryByte(points.isOn(k) ? 1 : 0));
            }
        }

        void putAnalogs(Points points) {
            if (withAnalogs || !hasRoom(ANALOGS_BYTES)) {
                return;
            }
            withAnalogs = true;
            putStaticHead(30);
            for (int k = 0; k < POINTS; k++) {
                put(0x01);
                put(points.valueOf(k));
                put(points.valueOf(k) >> 8);
            }
        }

        /** Puts the events of a class that are not in this answer yet, as long as there is room. */
        void putEvents(EventRow events) {
            int kind = NONE;
            int underHead = 0;
            int headAt = 0;
            for (int k = 0; k < events.size(); k++) {
                if (events.isAnswered(k)) {
                    continue;
                }
                boolean newHead = events.kindAt(k) != kind || underHead == MOST_UNDER_HEAD;
                int bytes = events.kindAt(k) == BINARY ? 2 : 4;
                if (!hasRoom(newHead ? EVENT_HEAD_BYTES + bytes : bytes)) {
                    return;
                }
                if (newHead) {
                    kind = events.kindAt(k);
                    underHead = 0;
                    headAt = length;
                    putEventHead(kind);
                }
                underHead++;
                row[headAt + EVENT_HEAD_BYTES - 1] = underHead;
                putEvent(kind, events.numberAt(k), events.valueAt(k));
                events.markAnswered(k);
                withEvents = true;
            }
        }

        private boolean hasRoom(int n) {
            return length + n <= row.length;
        }

        private void putStaticHead(int group) {
            put(group);
            put(2);
            put(0);
            put(0);
            put(POINTS - 1);
        }

        /** The number of events, the head's last byte, is written as they are put behind it. */
        private void putEventHead(int kind) {
            put(kind == BINARY ? 2 : 32);
            put(kind == BINARY ? 1 : 2);
            put(0x17);
            put(0);
        }

        private void putEvent(int kind, int number, int value) {
            put(number);
            if (kind == BINARY) {
                put(binaryByte(value));
            } else {
                put(0x01);
                put(value);
                put(value >> 8);
            }
        }

        private static int binaryByte(int value) {
            return value == 0 ? 0x01 : 0x81;
        }
    }

    /** What was sent and is not taken yet. */
    private static final class Outgoing {
        private static final int ROOM = 4000;
        private static final int ANSWER_CONTROL = 0x44;

        private final int address;
        private final int master;
        private final int[] row = new int[ROOM];
        private int length = 0;
        private int nextNumber = 0;

        Outgoing(int address, int master) {
            this.address = address;
            this.master = master;
        }

        int size() {
            return length;
        }

        int byteAt(int i) {
            return row[i];
        }

        void empty() {
            length = 0;
        }

        void sendReply(int control) {
            if (hasRoomFor(0)) {
                putHead(control, 0);
            }
        }

        void sendAnswer(Answer answer) {
            if (!hasRoomFor(answer.size())) {
                return;
            }
            // The number counts what is sent: an answer without room leaves it to the next one.
            answer.setNumber(nextNumber);
            nextNumber = nextNumber + 1 & 0x3F;
            putHead(ANSWER_CONTROL, answer.size());
            for (int from = 0; from < answer.size(); from += BLOCK_BYTES) {
                putBlock(answer.bytes(), from, Math.min(BLOCK_BYTES, answer.size() - from));
            }
        }

        private boolean hasRoomFor(int dataLength) {
            return length + frameLength(dataLength) <= ROOM;
        }

        private void putHead(int control, int dataLength) {
            int from = length;
            put(START_ONE);
            put(START_TWO);
            put(LEAST_LENGTH + dataLength);
            put(control);
            putTwo(master);
            putTwo(address);
            putTwo(checkOf(row, from, length));
        }

        private void putBlock(int[] data, int from, int n) {
            System.arraycopy(data, from, row, length, n);
            length += n;
            putTwo(checkOf(row, length - n, length));
        }

        private void putTwo(int value) {
            put(value & 0xFF);
            put(value >> 8);
        }

        private void put(int b) {
            row[length] = b;
            length++;
        }
    }

    /** The binaries and analogs, their classes, and what makes an event of them. */
    private static final class Points {
        private final boolean[] on = new boolean[POINTS];
        private final int[] values = new int[POINTS];
        private final int[] reported = new int[POINTS];
        private final int[] bands = new int[POINTS];
        private final int[] binaryClasses = new int[POINTS];
        private final int[] analogClasses = new int[POINTS];

        boolean isOn(int k) {
            return on[k];
        }

        int valueOf(int k) {
            return values[k];
        }

        int classOf(int kind, int k) {
            return kind == BINARY ? binaryClasses[k] : analogClasses[k];
        }

        boolean changeBinary(int k, boolean isOn) {
            boolean changed = on[k] != isOn;
            on[k] = isOn;
            return changed;
        }

        /** Whether the new value makes an event. */
        boolean changeAnalog(int k, int value) {
            values[k] = value;
            boolean far = Math.abs(value - reported[k]) > bands[k];
            if (analogClasses[k] == 0 || !far) {
                return false;
            }
            reported[k] = value;
            return true;
        }

        boolean changeClass(int kind, int k, int c) {
            int[] classes = kind == BINARY ? binaryClasses : analogClasses;
            boolean another = classes[k] != c;
            classes[k] = c;
            return another;
        }

        void changeBand(int k, int v) {
            bands[k] = v;
        }
    }

    /** The events of all classes, and the answer with some of them that waits to be confirmed. */
    private static final class Events {
        private final EventRow[] rows;
        private boolean lost = false;
        private int awaited = NONE;

        Events(int size) {
            rows = new EventRow[CLASSES];
            for (int i = 0; i < CLASSES; i++) {
                rows[i] = new EventRow(size);
            }
        }

        EventRow ofClass(int c) {
            return rows[c - 1];
        }

        boolean areLost() {
            return lost;
        }

        /** A point of class 0 makes no events. */
        void add(int c, int kind, int number, int value) {
            if (c == 0) {
                return;
            }
            if (rows[c - 1].isFull()) {
                rows[c - 1].removeOldest();
                lost = true;
            }
            rows[c - 1].append(kind, number, value);
        }

        void waitFor(int sequence) {
            awaited = sequence;
        }

        void stopWaiting() {
            awaited = NONE;
            for (int i = 0; i < CLASSES; i++) {
                rows[i].unmarkAll();
            }
        }

        void confirm(int sequence) {
            if (awaited != sequence) {
                return;
            }
            awaited = NONE;
            lost = false;
            for (int i = 0; i < CLASSES; i++) {
                rows[i].removeAnswered();
            }
        }

        /** Bit c for each class c with events that are not in the latest answer. */
        int classesLeft() {
            int bits = 0;
            for (int i = 0; i < CLASSES; i++) {
                if (rows[i].hasUnanswered()) {
                    bits |= 2 << i;
                }
            }
            return bits;
        }
    }

    /** The events of one class, oldest first, each marked if it is in the answer that waits. */
    private static final class EventRow {
        private final int most;
        private final int[] kinds;
        private final int[] numbers;
        private final int[] values;
        private final boolean[] answered;
        private int length = 0;

        EventRow(int most) {
            this.most = most;
            kinds = new int[most];
            numbers = new int[most];
            values = new int[most];
            answered = new boolean[most];
        }

        int size() {
            return length;
        }

        boolean isFull() {
            return length >= most;
        }

        int kindAt(int k) {
            return kinds[k];
        }

        int numberAt(int k) {
            return numbers[k];
        }

        int valueAt(int k) {
            return values[k];
        }

        boolean isAnswered(int k) {
            return answered[k];
        }

        void markAnswered(int k) {
            answered[k] = true;
        }

        void append(int kind, int number, int value) {
            if (isFull()) {
                return;
            }
            kinds[length] = kind;
            numbers[length] = number;
            values[length] = value;
            answered[length] = false;
            length++;
        }

        void removeOldest() {
            for (int k = 1; k < length; k++) {
                move(k, k - 1);
            }
            length = Math.max(0, length - 1);
        }

        void removeAnswered() {
            int kept = 0;
            for (int k = 0; k < length; k++) {
                if (!answered[k]) {
                    move(k, kept);
                    kept++;
                }
            }
            length = kept;
        }

        void unmarkAll() {
            for (int k = 0; k < length; k++) {
                answered[k] = false;
            }
        }

        boolean hasUnanswered() {
            for (int k = 0; k < length; k++) {
                if (!answered[k]) {
                    return true;
                }
            }
            return false;
        }

        private void move(int from, int to) {
            kinds[to] = kinds[from];
            numbers[to] = numbers[from];
            values[to] = values[from];
            answered[to] = answered[from];
        }
    }

    /** The relays, and the select that an operate has to match. */
    private static final class Relays {
        private static final int FIRST_AT = 6;
        private static final int BYTES_EACH = 12;
        private static final int MOST_AT_ONCE = 8;
        private static final int LATE = 1;
        private static final int NOT_SELECTED = 2;
        private static final int NOT_KNOWN = 4;

        private final int timeout;
        private final int[] codes = new int[RELAYS];
        private int acted = 0;
        private final int[] selected = new int[FIRST_AT + BYTES_EACH * MOST_AT_ONCE];
        private int selectedLength = 0;
        private int selectedTick = 0;

        Relays(int timeout) {
            this.timeout = timeout;
            for (int k = 0; k < RELAYS; k++) {
                codes[k] = NONE;
            }
        }

        static boolean isWellFormed(int[] request, int n) {
            if (n < FIRST_AT || request[2] != 12 || request[3] != 1 || request[4] != 0x17) {
                return false;
            }
            int relays = request[5];
            return relays >= 1 && relays <= MOST_AT_ONCE && n == FIRST_AT + BYTES_EACH * relays;
        }

        static boolean isKnown(int k, int code) {
            return k >= 0 && k < RELAYS && (code == 3 || code == 4);
        }

        int codeOf(int k) {
            return codes[k];
        }

        int acts() {
            return acted;
        }

        void act(int k, int code) {
            codes[k] = code;
            acted++;
        }

        void forgetSelected() {
            selectedLength = 0;
        }

        void keepSelected(int[] request, int n, int tick) {
            System.arraycopy(request, 0, selected, 0, n);
            selectedLength = n;
            selectedTick = tick;
        }

        /** The status that an operate has for all relays that are known. */
        int standingOf(int[] request, int n, int tick) {
            boolean inTurn = (request[0] & 0x0F) == (selected[0] + 1 & 0x0F);
            if (selectedLength != n || !inTurn) {
                return NOT_SELECTED;
            }
            for (int i = 2; i < n; i++) {
                if (request[i] != selected[i]) {
                    return NOT_SELECTED;
                }
            }
            return tick - selectedTick > timeout ? LATE : 0;
        }
    }
}
