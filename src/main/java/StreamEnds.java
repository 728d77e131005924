/**
 * A simulation of a transport protocol like TCP between two endpoints. Every object that a call
 * needs is made by the constructor and used again, so no call makes an object of its own.
 */
public final class StreamEnds {
    public static final int BAD = -1, NO = -2, FULL = -3, NONE = -4;

    private static final int CLOSED = 0, LISTEN = 1, SYN_SENT = 2, SYN_RECEIVED = 3, ESTABLISHED = 4,
            FIN_WAIT_1 = 5, FIN_WAIT_2 = 6, CLOSE_WAIT = 7, CLOSING = 8, LAST_ACK = 9, TIME_WAIT = 10;
    private static final int SYN = 1, FIN = 2, ACK = 4, RST = 8;

    private static final int NOT_OPEN = 1, IS_RESET = 2, ACK_TOO_EARLY = 3, NO_SYN = 4, WRONG_ACK = 5,
            NOT_FITTING = 6, NO_WINDOW = 7, BEYOND_WINDOW = 8, BEFORE_WINDOW = 9, NO_ACK = 10;

    private static final int TEXT_SIZE = 200, WIRE_SIZE = 20, PENDING_SIZE = 32, SEGMENT_SIZE = 8,
            SAMPLES = 6, TOLD_RANGES = 2;
    private static final int FIRST_TIMEOUT = 6, LEAST_TIMEOUT = 2, MOST_TIMEOUT = 64;
    private static final int CALM_TICKS = 300, PASS_TICKS = 100, DRIVE_EVENTS = 60, DRIVE_NUMBERS = 9999;

    // At most 34 successive places of a stream are looked at together (32 bytes, SYN and FIN), so
    // a ring of 64 keeps them apart, and a place with this mask is always an index of it. A set of
    // such places is a long: a shift by a place takes its low six bits alone, as the mask does.
    private static final int RING = 64, RING_MASK = 63;

    private final Text text = new Text();
    private final Config described = new Config();
    private final Network network = new Network();
    private final Network rehearsal = new Network();

    public StreamEnds() {
        described.bufferSize = 12;
        described.firstOf0 = 250;
        described.firstOf1 = 100;
        network.setUp(described);
    }

    public int write(int letter) {
        if (letter < 32 || letter > 126) {
            return BAD;
        }
        return text.append(letter) ? text.length : FULL;
    }

    public int wipe() {
        int before = text.length;
        text.length = 0;
        return before;
    }

    public int fault() {
        return described.read(text);
    }

    public int lay() {
        if (described.read(text) != NONE || !described.hasRoom()) {
            return NO;
        }
        network.setUp(described);
        return described.segmentSize;
    }

    public int open(int e, int kind) {
        if (!isEnd(e) || kind < 0 || kind > 1) {
            return BAD;
        }
        Endpoint end = network.endpoint(e);
        if (end.state != CLOSED) {
            return NO;
        }
        end.start();
        if (kind == 0) {
            end.state = LISTEN;
        } else {
            end.state = SYN_SENT;
            end.sendFirstSyn();
        }
        end.adjustTimer();
        return network.wire.size;
    }

    public int say(int e, int b) {
        if (!isEnd(e) || b < 0 || b > 255) {
            return BAD;
        }
        Endpoint end = network.endpoint(e);
        if (!end.maySay()) {
            return NO;
        }
        if (end.out.pending() >= PENDING_SIZE) {
            return FULL;
        }
        end.out.append(b);
        end.transmit();
        end.adjustTimer();
        return end.out.pending();
    }

    public int cry(int e) {
        if (!isEnd(e)) {
            return BAD;
        }
        Endpoint end = network.endpoint(e);
        if (!end.maySay() || end.out.written == 0) {
            return NO;
        }
        end.out.urgent = end.out.written + 1;
        return end.out.urgent;
    }

    public int leave(int e) {
        if (!isEnd(e)) {
            return BAD;
        }
        Endpoint end = network.endpoint(e);
        switch (end.state) {
            case LISTEN:
            case SYN_SENT:
                end.close();
                return end.state;
            case SYN_RECEIVED:
            case ESTABLISHED:
            case CLOSE_WAIT:
                if (end.out.releasing) {
                    return NO;
                }
                end.out.releasing = true;
                end.transmit();
                end.adjustTimer();
                return end.state;
            default:
                return NO;
        }
    }

    public int quit(int e) {
        if (!isEnd(e)) {
            return BAD;
        }
        Endpoint end = network.endpoint(e);
        int before = end.state;
        if (before == CLOSED) {
            return NO;
        }
        if (before == SYN_RECEIVED || before == CLOSE_WAIT || end.isReceiving()) {
            end.sendReset(network.config.number(e, end.out.sent));
        }
        end.close();
        return before;
    }

    public int take(int e) {
        if (!isEnd(e)) {
            return BAD;
        }
        Endpoint end = network.endpoint(e);
        if (end.in.consumable() == 0) {
            return NONE;
        }
        int result = end.in.consume();
        end.widenWindow();
        end.adjustTimer();
        return result;
    }

    public int arrive(int i) {
        if (!network.wire.has(i)) {
            return BAD;
        }
        return network.deliver(i) ? 1 : 0;
    }

    public int lose(int i) {
        if (!network.wire.has(i)) {
            return BAD;
        }
        network.wire.remove(i);
        return network.wire.size;
    }

    public int twice(int i) {
        if (!network.wire.has(i)) {
            return BAD;
        }
        return network.wire.duplicate(i) ? network.wire.size : FULL;
    }

    public int pass(int n) {
        if (n < 1 || n > PASS_TICKS) {
            return BAD;
        }
        for (int k = 0; k < n; k++) {
            network.tick();
        }
        return network.clock.now;
    }

    public int drive(int z, int n) {
        if (z < 0 || z > DRIVE_NUMBERS || n < 1 || n > DRIVE_EVENTS) {
            return BAD;
        }
        for (int k = 0; k < n; k++) {
            long x = 7919L * z + 6151L * k + 1L;
            int d = (int) (x * x % 65521L);
            int size = network.wire.size;
            if (size == 0 || d % 8 == 0) {
                network.tick();
                continue;
            }
            int i = d / 8 % size;
            int fate = d / 256 % 8;
            if (fate == 0) {
                network.wire.remove(i);
            } else if (fate == 1) {
                network.wire.duplicate(i);
            } else {
                network.deliver(i);
            }
        }
        return network.wire.size;
    }

    public int calm(int what) {
        if (what < 0 || what > 5) {
            return BAD;
        }
        rehearsal.copyFrom(network);
        int ticks = 0;
        while (ticks < CALM_TICKS && rehearsal.isBusy()) {
            int waiting = rehearsal.wire.size;
            for (int k = 0; k < waiting; k++) {
                rehearsal.deliver(0);
            }
            rehearsal.tick();
            ticks++;
        }
        switch (what) {
            case 0:
                return ticks;
            case 1:
                return rehearsal.zero.state;
            case 2:
                return rehearsal.one.state;
            case 3:
                return rehearsal.zero.in.consumable();
            case 4:
                return rehearsal.one.in.consumable();
            default:
                return rehearsal.wire.sent - network.wire.sent;
        }
    }

    public int end(int e, int what) {
        if (!isEnd(e) || what < 0 || what > 17) {
            return BAD;
        }
        return network.endpoint(e).value(what);
    }

    public int sample(int e, int i) {
        if (!isEnd(e) || i < 0) {
            return BAD;
        }
        return network.endpoint(e).trips.roundTrip(i);
    }

    public int span(int e, int i, int what) {
        if (!isEnd(e) || i < -1 || what < 0 || what > 1) {
            return BAD;
        }
        Incoming in = network.endpoint(e).in;
        int ranges = 0;
        int start = in.nextHeld(in.expected + 1);
        while (start < in.limit && ranges < RING) {
            int stop = in.nextGap(start);
            if (ranges == i) {
                return what == 0 ? start : stop;
            }
            ranges++;
            start = in.nextHeld(stop);
        }
        return i == -1 ? ranges : NONE;
    }

    public int known(int e, int place) {
        if (!isEnd(e) || place < 0) {
            return BAD;
        }
        return network.endpoint(e).out.isMarked(place) ? 1 : 0;
    }

    public int letter(int i, int what) {
        if (!network.wire.has(i) || what < 0 || what > 11) {
            return BAD;
        }
        return network.wire.at(i).property(what);
    }

    public int byteOf(int i, int j) {
        if (!network.wire.has(i) || j < 0) {
            return BAD;
        }
        return network.wire.at(i).byteAt(j);
    }

    public int cause(int i) {
        if (i < 0) {
            return BAD;
        }
        if (i == 0) {
            return network.reason;
        }
        return i == 1 ? network.cause : NONE;
    }

    public int count(int what) {
        switch (what) {
            case 0:
                return network.config.segmentSize;
            case 1:
                return network.config.bufferSize;
            case 2:
                return network.config.firstOf0;
            case 3:
                return network.config.firstOf1;
            case 4:
                return network.config.lifetime;
            case 5:
                return network.wire.size;
            case 6:
                return network.clock.now;
            case 7:
                return network.wire.sent;
            case 8:
                return network.wire.lost;
            case 9:
                return network.wire.resent;
            case 10:
                return network.dropped;
            case 11:
                return text.length;
            default:
                return BAD;
        }
    }

    private static boolean isEnd(int e) {
        return e == 0 || e == 1;
    }

    /** The text that describes a configuration. */
    private static final class Text {
        final int[] codes = new int[TEXT_SIZE];
        int length;

        boolean append(int code) {
            if (length < 0 || length >= TEXT_SIZE) {
                return false;
            }
            codes[length] = code;
            length++;
            return true;
        }

        /** The character there, or NONE before the start and from the end on. */
        int at(int i) {
            return i >= 0 && i < length && i < TEXT_SIZE ? codes[i] : NONE;
        }

        boolean isDigit(int i) {
            int code = at(i);
            return code >= '0' && code <= '9';
        }

        /** The place after the digits from there on, of which at most three are read. */
        int digitsEnd(int from) {
            int end = from;
            while (end < from + 3 && isDigit(end)) {
                end++;
            }
            return end;
        }

        /** The number that these digits make, or NONE if there are none. */
        int number(int from, int end) {
            int value = from < end ? 0 : NONE;
            for (int i = from; i < end; i++) {
                value = 10 * value + at(i) - '0';
            }
            return value;
        }
    }

    /** A configuration, and how it is read from a text. */
    private static final class Config {
        int segmentSize;
        int bufferSize;
        int firstOf0;
        int firstOf1;
        int lifetime;

        Config() {
            setDefaults();
        }

        private void setDefaults() {
            segmentSize = 4;
            bufferSize = 16;
            firstOf0 = 0;
            firstOf1 = 0;
            lifetime = 5;
        }

        void copyFrom(Config other) {
            segmentSize = other.segmentSize;
            bufferSize = other.bufferSize;
            firstOf0 = other.firstOf0;
            firstOf1 = other.firstOf1;
            lifetime = other.lifetime;
        }

        boolean hasRoom() {
            return bufferSize >= 2 * segmentSize;
        }

        /** Takes the values from a text; answers the fault of the text, or NONE. */
        int read(Text text) {
            setDefaults();
            int at = 0;
            while (at < text.length) {
                int next = readItem(text, at);
                if (next <= at) {
                    return at;
                }
                at = next;
            }
            return NONE;
        }

        /** Reads one item; answers the place after it, or NONE if it does not follow the rules. */
        private int readItem(Text text, int start) {
            int letter = text.at(start);
            int end = text.digitsEnd(start + 1);
            int value = text.number(start + 1, end);
            int second = NONE;
            if (letter == 'f' && text.at(end) == ',') {
                int secondStart = end + 1;
                end = text.digitsEnd(secondStart);
                second = text.number(secondStart, end);
            }
            return text.at(end) == ';' && set(letter, value, second) ? end + 1 : NONE;
        }

        private boolean set(int letter, int value, int second) {
            boolean right;
            switch (letter) {
                case 'p':
                    right = value >= 1 && value <= 8;
                    segmentSize = value;
                    break;
                case 'b':
                    right = value >= 2 && value <= 32;
                    bufferSize = value;
                    break;
                case 'f':
                    right = value >= 0 && value <= 255 && second >= 0 && second <= 255;
                    firstOf0 = value;
                    firstOf1 = second;
                    break;
                case 'l':
                    right = value >= 1 && value <= 20;
                    lifetime = value;
                    break;
                default:
                    right = false;
                    break;
            }
            return right;
        }

        /** The number of a place in the stream of an endpoint. */
        int number(int e, int place) {
            return (e == 0 ? firstOf0 : firstOf1) + place & 255;
        }

        /** The place with this number in the stream of an endpoint, interpreted near a place. */
        int place(int e, int number, int near) {
            int ahead = number - number(e, near) & 255;
            return ahead < 128 ? near + ahead : near + ahead - 256;
        }
    }

    /** The time, which all endpoints of a network share. */
    private static final class Clock {
        int now;
    }

    /** A segment; its ack number, window and urgent number are NONE if it has no such number. */
    private static final class Segment {
        int sender;
        int flags;
        int number;
        int ack;
        int window;
        int urgent;
        int byteCount;
        final int[] bytes = new int[SEGMENT_SIZE];
        int rangeCount;
        final int[] ranges = new int[2 * TOLD_RANGES];

        /** Makes it a segment with flags and a number alone. */
        void begin(int from, int itsFlags, int itsNumber) {
            sender = from;
            flags = itsFlags;
            number = itsNumber;
            ack = NONE;
            window = NONE;
            urgent = NONE;
            byteCount = 0;
            rangeCount = 0;
        }

        void copyFrom(Segment other) {
            sender = other.sender;
            flags = other.flags;
            number = other.number;
            ack = other.ack;
            window = other.window;
            urgent = other.urgent;
            byteCount = other.byteCount;
            System.arraycopy(other.bytes, 0, bytes, 0, SEGMENT_SIZE);
            rangeCount = other.rangeCount;
            System.arraycopy(other.ranges, 0, ranges, 0, 2 * TOLD_RANGES);
        }

        boolean has(int flag) {
            return (flags & flag) != 0;
        }

        int length() {
            return byteCount + (has(SYN) ? 1 : 0) + (has(FIN) ? 1 : 0);
        }

        void addByte(int b) {
            if (byteCount >= 0 && byteCount < SEGMENT_SIZE) {
                bytes[byteCount] = b;
                byteCount++;
            }
        }

        int byteAt(int j) {
            return j >= 0 && j < byteCount && j < SEGMENT_SIZE ? bytes[j] : NONE;
        }

        void addRange(int start, int stop) {
            if (rangeCount >= 0 && rangeCount < TOLD_RANGES) {
                ranges[2 * rangeCount] = start;
                ranges[2 * rangeCount + 1] = stop;
                rangeCount++;
            }
        }

        private int rangeNumber(int i) {
            return i >= 0 && i < 2 * rangeCount && i < 2 * TOLD_RANGES ? ranges[i] : NONE;
        }

        int property(int what) {
            switch (what) {
                case 0:
                    return sender;
                case 1:
                    return flags;
                case 2:
                    return number;
                case 3:
                    return ack;
                case 4:
                    return window;
                case 5:
                    return byteCount;
                case 6:
                    return rangeCount;
                case 7:
                    return urgent;
                default:
                    return rangeNumber(what - 8);
            }
        }
    }

    /** The segments on the wire in the order in which they were sent, and what has been counted. */
    private static final class Wire {
        // Behind the segments on the wire stands the draft of the next one, so there is one slot
        // more than the wire has places: a draft written there is lost at once.
        final Segment[] slots = new Segment[WIRE_SIZE + 1];
        // The segment that was removed last stays whole while answers to it are drafted.
        Segment removed = new Segment();
        int size;
        int sent;
        int lost;
        int resent;

        Wire() {
            for (int i = 0; i < slots.length; i++) {
                slots[i] = new Segment();
            }
        }

        void clear() {
            size = 0;
            sent = 0;
            lost = 0;
            resent = 0;
        }

        void copyFrom(Wire other) {
            size = other.size;
            sent = other.sent;
            lost = other.lost;
            resent = other.resent;
            for (int i = 0; i < size && i < WIRE_SIZE; i++) {
                slots[i].copyFrom(other.slots[i]);
            }
        }

        boolean has(int i) {
            return i >= 0 && i < size && i < WIRE_SIZE;
        }

        Segment at(int i) {
            return has(i) ? slots[i] : removed;
        }

        Segment draft() {
            return size >= 0 && size <= WIRE_SIZE ? slots[size] : removed;
        }

        void sendDraft() {
            sent++;
            if (size < WIRE_SIZE) {
                size++;
            } else {
                lost++;
            }
        }

        Segment remove(int i) {
            if (has(i)) {
                int last = Math.min(size, WIRE_SIZE) - 1;
                Segment gone = slots[i];
                for (int k = i; k < last; k++) {
                    slots[k] = slots[k + 1];
                }
                slots[last] = removed;
                removed = gone;
                size = last;
            }
            return removed;
        }

        boolean duplicate(int i) {
            if (!has(i) || size >= WIRE_SIZE) {
                return false;
            }
            slots[size].copyFrom(slots[i]);
            size++;
            return true;
        }
    }

    /** What an endpoint knows of its own stream. */
    private static final class Outgoing {
        int acked;
        int sent;
        int edge;
        int written;
        int urgent;
        boolean releasing;
        long marks;
        final int[] bytes = new int[RING];

        void start() {
            acked = 0;
            sent = 0;
            edge = 1;
            written = 0;
            urgent = 0;
            releasing = false;
            marks = 0;
        }

        void copyFrom(Outgoing other) {
            acked = other.acked;
            sent = other.sent;
            edge = other.edge;
            written = other.written;
            urgent = other.urgent;
            releasing = other.releasing;
            marks = other.marks;
            System.arraycopy(other.bytes, 0, bytes, 0, RING);
        }

        void append(int b) {
            written++;
            bytes[written & RING_MASK] = b;
        }

        int byteAt(int place) {
            return bytes[place & RING_MASK];
        }

        int pending() {
            return Math.max(0, written + 1 - Math.max(1, acked));
        }

        int unsent() {
            return Math.max(0, written + 1 - Math.max(1, sent));
        }

        /** How many of the unsent bytes a segment of this size can take within the edge. */
        int sendable(int most) {
            return Math.min(most, Math.min(unsent(), edge - sent));
        }

        int finPlace() {
            return written + 1;
        }

        boolean isFinSent() {
            return sent > finPlace();
        }

        boolean isFinAcked() {
            return acked > finPlace();
        }

        boolean isMarked(int place) {
            return place >= acked && place < sent && (marks >>> place & 1) != 0;
        }

        void mark(int start, int stop) {
            int end = Math.min(stop, sent);
            for (int place = Math.max(start, acked); place < end; place++) {
                marks |= 1L << place;
            }
        }

        void acknowledge(int place) {
            // What stood for these places comes to stand for later ones.
            for (int old = acked; old < place; old++) {
                marks &= ~(1L << old);
            }
            acked = place;
        }

        /** The lowest place from acked on that is not marked; sent if all before it are marked. */
        int firstUnmarked() {
            int place = acked;
            while (place < sent && isMarked(place)) {
                place++;
            }
            return place;
        }

        /** How many bytes that have been sent stand from there on before a marked place. */
        int resendable(int from, int most) {
            int n = 0;
            while (n < most && from + n < sent && from + n <= written && !isMarked(from + n)) {
                n++;
            }
            return n;
        }
    }

    /** What an endpoint knows of the stream of its peer. */
    private static final class Incoming {
        int expected;
        int consumed;
        int limit;
        int fin;
        int urged;
        long held;
        final int[] bytes = new int[RING];

        void start(int bufferSize) {
            expected = 0;
            consumed = 1;
            limit = bufferSize + 1;
            fin = NONE;
            urged = 0;
            held = 0;
        }

        void copyFrom(Incoming other) {
            expected = other.expected;
            consumed = other.consumed;
            limit = other.limit;
            fin = other.fin;
            urged = other.urged;
            held = other.held;
            System.arraycopy(other.bytes, 0, bytes, 0, RING);
        }

        int window() {
            return limit - expected;
        }

        boolean hasRoomFor(int place) {
            return place >= expected && place < limit;
        }

        /** Whether a segment of this length at this place belongs to what is expected. */
        boolean fits(int place, int length) {
            if (length == 0) {
                return place == expected || hasRoomFor(place);
            }
            return Math.max(place, expected) < Math.min(place + length, limit);
        }

        void hold(int place, int b) {
            if (hasRoomFor(place) && (held >>> place & 1) == 0) {
                held |= 1L << place;
                bytes[place & RING_MASK] = b;
            }
        }

        void passHeld() {
            while (expected < limit && (held >>> expected & 1) != 0) {
                held &= ~(1L << expected);
                expected++;
            }
        }

        /** The first held place from there on, or limit or more if there is none. */
        int nextHeld(int from) {
            int place = from;
            while (place < limit && (held >>> place & 1) == 0) {
                place++;
            }
            return place;
        }

        /** The first place from there on that is not held. */
        int nextGap(int from) {
            int place = from;
            while (place < limit && (held >>> place & 1) != 0) {
                place++;
            }
            return place;
        }

        int consumable() {
            int stop = fin >= consumed ? Math.min(fin, expected) : expected;
            return Math.max(0, stop - consumed);
        }

        int consume() {
            int b = bytes[consumed & RING_MASK];
            consumed++;
            return b;
        }
    }

    /** The round-trip times of an endpoint, and the timeout that follows from them. */
    private static final class RoundTrips {
        int timeout;
        int smoothed;
        int spread;
        int timed;
        int timedAt;
        int measured;
        final int[] latest = new int[SAMPLES];

        void start() {
            timeout = FIRST_TIMEOUT;
            smoothed = 0;
            spread = 0;
            timed = NONE;
            timedAt = 0;
            measured = 0;
        }

        void copyFrom(RoundTrips other) {
            timeout = other.timeout;
            smoothed = other.smoothed;
            spread = other.spread;
            timed = other.timed;
            timedAt = other.timedAt;
            measured = other.measured;
            System.arraycopy(other.latest, 0, latest, 0, SAMPLES);
        }

        void startTiming(int place, int now) {
            if (timed == NONE) {
                timed = place;
                timedAt = now;
            }
        }

        void acknowledge(int acked, int now) {
            if (timed != NONE && acked > timed) {
                measure(Math.max(1, now - timedAt));
                timed = NONE;
            }
        }

        private void measure(int r) {
            if (measured == 0) {
                smoothed = 8 * r;
                spread = 2 * r;
            } else {
                int d = r - smoothed / 8;
                smoothed += d;
                spread += Math.abs(d) - spread / 4;
            }
            timeout = Math.max(LEAST_TIMEOUT, Math.min(MOST_TIMEOUT, smoothed / 8 + spread));
            for (int i = SAMPLES - 1; i > 0; i--) {
                latest[i] = latest[i - 1];
            }
            latest[0] = r;
            measured++;
        }

        void doubleTimeout() {
            timeout = Math.min(MOST_TIMEOUT, 2 * timeout);
        }

        int roundTrip(int i) {
            return i >= 0 && i < SAMPLES && i < measured ? latest[i] : NONE;
        }
    }

    /** An endpoint: its values, its timers, and how it sends. */
    private static final class Endpoint {
        final int index;
        final Config config;
        final Wire wire;
        final Clock clock;
        final Outgoing out = new Outgoing();
        final Incoming in = new Incoming();
        final RoundTrips trips = new RoundTrips();
        int state;
        int timer;
        int waitTimer;

        Endpoint(int index, Config config, Wire wire, Clock clock) {
            this.index = index;
            this.config = config;
            this.wire = wire;
            this.clock = clock;
        }

        void start() {
            close();
            out.start();
            in.start(config.bufferSize);
            trips.start();
        }

        void copyFrom(Endpoint other) {
            state = other.state;
            timer = other.timer;
            waitTimer = other.waitTimer;
            out.copyFrom(other.out);
            in.copyFrom(other.in);
            trips.copyFrom(other.trips);
        }

        boolean mayTransmit() {
            return state == ESTABLISHED || state == CLOSE_WAIT;
        }

        boolean isReceiving() {
            return state == ESTABLISHED || state == FIN_WAIT_1 || state == FIN_WAIT_2;
        }

        boolean maySay() {
            return (state == SYN_SENT || state == SYN_RECEIVED || mayTransmit()) && !out.releasing;
        }

        boolean isStalled() {
            return mayTransmit() && out.acked == out.sent && (out.unsent() > 0 || out.releasing);
        }

        boolean isBusy() {
            return timer != 0 || state == TIME_WAIT;
        }

        void close() {
            state = CLOSED;
            timer = 0;
            waitTimer = 0;
        }

        void waitForLate() {
            state = TIME_WAIT;
            waitTimer = 2 * config.lifetime;
        }

        void adjustTimer() {
            if (state == CLOSED || state == LISTEN || out.acked >= out.sent && !isStalled()) {
                timer = 0;
            } else if (timer == 0) {
                timer = trips.timeout;
            }
        }

        /** Begins a segment; if it has ACK, with what the endpoint says of its peer's stream. */
        private Segment draft(int flags, int place) {
            Segment segment = wire.draft();
            segment.begin(index, flags, config.number(index, place));
            if (segment.has(ACK)) {
                segment.ack = config.number(1 - index, in.expected);
                segment.window = in.window();
                int from = in.nextHeld(in.expected + 1);
                for (int k = 0; k < TOLD_RANGES && from < in.limit; k++) {
                    int stop = in.nextGap(from);
                    segment.addRange(config.number(1 - index, from), config.number(1 - index, stop));
                    from = in.nextHeld(stop);
                }
            }
            return segment;
        }

        void sendFirstSyn() {
            sendSyn();
            trips.startTiming(0, clock.now);
        }

        void sendSyn() {
            draft(state == SYN_SENT ? SYN : SYN | ACK, 0);
            wire.sendDraft();
            out.sent = 1;
        }

        void sendAck() {
            draft(ACK, out.sent);
            wire.sendDraft();
        }

        void sendReset(int number) {
            wire.draft().begin(index, RST, number);
            wire.sendDraft();
        }

        void sendResetFor(Segment cause) {
            if (cause.has(ACK)) {
                sendReset(cause.ack);
                return;
            }
            Segment segment = wire.draft();
            segment.begin(index, RST | ACK, 0);
            segment.ack = cause.number + cause.length() & 255;
            segment.window = 0;
            wire.sendDraft();
        }

        /** Sends bytes from this place on, perhaps with FIN; from sent on they are sent for the first time. */
        private void sendData(int place, int n, boolean withFin) {
            Segment segment = draft(withFin ? FIN | ACK : ACK, place);
            for (int k = 0; k < n; k++) {
                segment.addByte(out.byteAt(place + k));
            }
            if (place < out.urgent) {
                segment.urgent = config.number(index, out.urgent);
            }
            wire.sendDraft();
            int length = segment.length();
            if (place == out.sent && length > 0) {
                trips.startTiming(place + length - 1, clock.now);
                out.sent += length;
            }
        }

        void transmit() {
            // Each round sends one of the pending bytes at least, or FIN.
            for (int round = 0; round <= PENDING_SIZE && mayTransmit(); round++) {
                int n = out.sendable(config.segmentSize);
                boolean isRest = n == out.unsent();
                boolean mayBeSmall = out.acked == out.sent || out.releasing;
                if (n == config.segmentSize || n >= 1 && isRest && mayBeSmall) {
                    boolean withFin = out.releasing && isRest && out.sent + n < out.edge;
                    sendData(out.sent, n, withFin);
                } else if (out.unsent() == 0 && out.releasing && out.sent < out.edge) {
                    sendData(out.sent, 0, true);
                } else {
                    return;
                }
                if (out.isFinSent()) {
                    state = state == ESTABLISHED ? FIN_WAIT_1 : LAST_ACK;
                }
            }
        }

        void widenWindow() {
            int gain = in.consumed + config.bufferSize - in.limit;
            int window = in.window();
            if (gain >= config.segmentSize || 2 * gain >= config.bufferSize) {
                in.limit += gain;
                if (window < config.segmentSize && isReceiving()) {
                    sendAck();
                }
            }
        }

        void tick() {
            if (waitTimer != 0) {
                waitTimer--;
                if (waitTimer == 0) {
                    close();
                }
            }
            if (timer != 0) {
                timer--;
                if (timer == 0) {
                    expire();
                }
            }
        }

        private void expire() {
            if (out.acked < out.sent) {
                retransmit();
            } else if (out.sent < out.edge) {
                sendData(out.sent, out.sendable(config.segmentSize), false);
            } else {
                draft(ACK, out.sent - 1);
                wire.sendDraft();
            }
            trips.doubleTimeout();
            adjustTimer();
        }

        private void retransmit() {
            int place = out.firstUnmarked();
            if (place >= out.sent) {
                return;
            }
            trips.timed = NONE;
            wire.resent++;
            if (place == 0) {
                sendSyn();
                return;
            }
            int n = out.resendable(place, config.segmentSize);
            int after = place + n;
            sendData(place, n, out.isFinSent() && after == out.finPlace() && !out.isMarked(after));
        }

        int value(int what) {
            switch (what) {
                case 0:
                    return state;
                case 1:
                    return out.acked;
                case 2:
                    return out.sent;
                case 3:
                    return out.edge;
                case 4:
                    return out.pending();
                case 5:
                    return in.expected;
                case 6:
                    return in.consumed;
                case 7:
                    return in.limit;
                case 8:
                    return trips.timeout;
                case 9:
                    return trips.smoothed;
                case 10:
                    return trips.spread;
                case 11:
                    return timer;
                case 12:
                    return waitTimer;
                case 13:
                    return out.releasing ? 1 : 0;
                case 14:
                    return out.urgent;
                case 15:
                    return in.urged;
                case 16:
                    return trips.timed;
                default:
                    return in.fin;
            }
        }
    }

    /** What an endpoint does with the segments that arrive at it. */
    private static final class Receiver {
        final Endpoint end;
        // Why the last segment was dropped; NONE if it was accepted.
        int reason = NONE;
        int cause = NONE;

        Receiver(Endpoint end) {
            this.end = end;
        }

        void receive(Segment segment) {
            reason = NONE;
            cause = NONE;
            switch (end.state) {
                case CLOSED:
                    receiveClosed(segment);
                    break;
                case LISTEN:
                    receiveListening(segment);
                    break;
                case SYN_SENT:
                    receiveConnecting(segment);
                    break;
                default:
                    receiveOpen(segment);
                    break;
            }
            end.adjustTimer();
        }

        private void receiveClosed(Segment segment) {
            reason = NOT_OPEN;
            if (!segment.has(RST)) {
                end.sendResetFor(segment);
            }
        }

        private void receiveListening(Segment segment) {
            if (segment.has(RST)) {
                reason = IS_RESET;
            } else if (segment.has(ACK)) {
                reason = ACK_TOO_EARLY;
                end.sendResetFor(segment);
            } else if (!segment.has(SYN)) {
                reason = NO_SYN;
            } else {
                end.in.expected = 1;
                end.state = SYN_RECEIVED;
                end.sendFirstSyn();
            }
        }

        private void receiveConnecting(Segment segment) {
            if (segment.has(ACK) && ownPlace(segment.ack) != 1) {
                reason = WRONG_ACK;
                if (segment.has(RST)) {
                    cause = IS_RESET;
                } else {
                    end.sendResetFor(segment);
                }
            } else if (segment.has(RST)) {
                if (segment.has(ACK)) {
                    end.close();
                } else {
                    reason = IS_RESET;
                }
            } else if (!segment.has(SYN)) {
                reason = NO_SYN;
            } else {
                end.in.expected = 1;
                if (segment.has(ACK)) {
                    acknowledge(segment, 1);
                    end.state = ESTABLISHED;
                    end.sendAck();
                    end.transmit();
                } else {
                    end.state = SYN_RECEIVED;
                    end.sendSyn();
                }
            }
        }

        private void receiveOpen(Segment segment) {
            int place = peerPlace(segment.number);
            if (!end.in.fits(place, segment.length())) {
                refuse(segment, place);
                return;
            }
            if (segment.has(RST)) {
                end.close();
                return;
            }
            if (!segment.has(ACK)) {
                reason = NO_ACK;
                return;
            }
            int acked = ownPlace(segment.ack);
            boolean opens = end.state == SYN_RECEIVED;
            if (opens && acked < 1 || acked > end.out.sent) {
                reason = WRONG_ACK;
                if (opens) {
                    end.sendResetFor(segment);
                } else {
                    end.sendAck();
                }
                return;
            }
            if (opens) {
                end.state = ESTABLISHED;
            }
            acknowledge(segment, acked);
            accept(segment, place);
            if (end.state == CLOSED) {
                return;
            }
            if (segment.length() != 0) {
                end.sendAck();
            }
            end.transmit();
        }

        /** Drops a segment that does not fit. */
        private void refuse(Segment segment, int place) {
            reason = NOT_FITTING;
            if (end.in.window() == 0) {
                cause = NO_WINDOW;
            } else if (place >= end.in.limit) {
                cause = BEYOND_WINDOW;
            } else {
                cause = BEFORE_WINDOW;
            }
            if (!segment.has(RST)) {
                end.sendAck();
            }
            if (end.state == TIME_WAIT) {
                end.waitForLate();
            }
        }

        /** Does what follows the acknowledgment, up to the answer. */
        private void accept(Segment segment, int place) {
            if (end.out.isFinAcked()) {
                if (end.state == FIN_WAIT_1) {
                    end.state = FIN_WAIT_2;
                } else if (end.state == CLOSING) {
                    end.waitForLate();
                } else if (end.state == LAST_ACK) {
                    end.close();
                    return;
                }
            }
            if (segment.urgent != NONE) {
                end.in.urged = Math.max(end.in.urged, peerPlace(segment.urgent));
            }
            if (end.isReceiving()) {
                keepBytes(segment, place);
            }
        }

        private void acknowledge(Segment segment, int acked) {
            Outgoing out = end.out;
            if (acked > out.acked) {
                out.acknowledge(acked);
                end.timer = 0;
                end.trips.acknowledge(acked, end.clock.now);
            }
            for (int k = 0; k < segment.rangeCount && k < TOLD_RANGES; k++) {
                out.mark(ownPlace(segment.ranges[2 * k]), ownPlace(segment.ranges[2 * k + 1]));
            }
            out.edge = Math.max(out.edge, acked + segment.window);
        }

        private void keepBytes(Segment segment, int place) {
            Incoming in = end.in;
            for (int k = 0; k < segment.byteCount; k++) {
                in.hold(place + k, segment.byteAt(k));
            }
            int after = place + segment.byteCount;
            if (segment.has(FIN) && in.hasRoomFor(after) && in.fin == NONE) {
                in.fin = after;
            }
            in.passHeld();
            if (in.expected == in.fin) {
                in.expected++;
                if (end.state == ESTABLISHED) {
                    end.state = CLOSE_WAIT;
                } else if (end.state == FIN_WAIT_1) {
                    end.state = CLOSING;
                } else {
                    end.waitForLate();
                }
            }
        }

        private int ownPlace(int number) {
            return end.config.place(end.index, number, end.out.acked);
        }

        private int peerPlace(int number) {
            return end.config.place(1 - end.index, number, end.in.expected);
        }
    }

    /** Two endpoints, the wire between them, and the time. */
    private static final class Network {
        final Config config = new Config();
        final Wire wire = new Wire();
        final Clock clock = new Clock();
        final Endpoint zero = new Endpoint(0, config, wire, clock);
        final Endpoint one = new Endpoint(1, config, wire, clock);
        final Receiver atZero = new Receiver(zero);
        final Receiver atOne = new Receiver(one);
        int reason;
        int cause;
        int dropped;

        void setUp(Config described) {
            config.copyFrom(described);
            wire.clear();
            clock.now = 0;
            zero.start();
            one.start();
            reason = NONE;
            cause = NONE;
            dropped = 0;
        }

        void copyFrom(Network other) {
            config.copyFrom(other.config);
            wire.copyFrom(other.wire);
            clock.now = other.clock.now;
            zero.copyFrom(other.zero);
            one.copyFrom(other.one);
            reason = other.reason;
            cause = other.cause;
            dropped = other.dropped;
        }

        Endpoint endpoint(int e) {
            return e == 0 ? zero : one;
        }

        boolean isBusy() {
            return wire.size > 0 || zero.isBusy() || one.isBusy();
        }

        /** Lets a segment arrive; answers whether it is accepted. */
        boolean deliver(int i) {
            if (!wire.has(i)) {
                return false;
            }
            Segment segment = wire.remove(i);
            Receiver receiver = segment.sender == 0 ? atOne : atZero;
            receiver.receive(segment);
            reason = receiver.reason;
            cause = receiver.cause;
            if (reason != NONE) {
                dropped++;
            }
            return reason == NONE;
        }

        void tick() {
            clock.now++;
            zero.tick();
            one.tick();
        }
    }
}
