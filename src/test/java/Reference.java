import java.util.ArrayList;
import java.util.Arrays;
import java.util.List;
import java.util.TreeMap;
import java.util.TreeSet;
import java.util.regex.Matcher;
import java.util.regex.Pattern;

/**
 * The document a second time, written with lists, maps and sets in the order of its sentences, and
 * with no thought for room or speed. ReferenceTest compares StreamEnds with it.
 */
final class Reference {
    static final int BAD = -1, NO = -2, FULL = -3, NONE = -4;
    static final int CLOSED = 0, LISTEN = 1, SYN_SENT = 2, SYN_RECEIVED = 3, ESTABLISHED = 4, FIN_WAIT_1 = 5,
            FIN_WAIT_2 = 6, CLOSE_WAIT = 7, CLOSING = 8, LAST_ACK = 9, TIME_WAIT = 10;
    static final Pattern ITEM = Pattern.compile("(?:([pbl])(\\d{1,3})|f(\\d{1,3}),(\\d{1,3}));");

    static final class Packet {
        int from;
        boolean syn, fin, ack, rst;
        int number;
        List<Integer> bytes = new ArrayList<>();
        List<int[]> ranges = new ArrayList<>();
        Integer ackNumber, window, urgentNumber;

        int length() {
            return bytes.size() + (syn ? 1 : 0) + (fin ? 1 : 0);
        }
    }

    static final class Side implements Cloneable {
        int me;
        int state;
        int acked = 0, sent = 0, edge = 1;
        List<Integer> written = new ArrayList<>();
        boolean releasing;
        int urgent;
        TreeSet<Integer> marked = new TreeSet<>();
        int expected = 0, consumed = 1, limit;
        TreeMap<Integer, Integer> came = new TreeMap<>();
        Integer fin;
        int urged;
        int timeout = 6, smoothed, spread, timer, waitTimer;
        Integer timed;
        int timedAt;
        List<Integer> trips = new ArrayList<>();

        Side(int me, int buffer) {
            this.me = me;
            this.limit = buffer + 1;
        }

        Side copy() {
            try {
                Side c = (Side) clone();
                c.written = new ArrayList<>(written);
                c.marked = new TreeSet<>(marked);
                c.came = new TreeMap<>(came);
                c.trips = new ArrayList<>(trips);
                return c;
            } catch (CloneNotSupportedException e) {
                throw new IllegalStateException(e);
            }
        }

        int pending() {
            int n = 0;
            for (int k = 1; k <= written.size(); k++) {
                n += k >= acked ? 1 : 0;
            }
            return n;
        }

        int unsent() {
            int n = 0;
            for (int k = 1; k <= written.size(); k++) {
                n += k >= sent ? 1 : 0;
            }
            return n;
        }

        int window() {
            return limit - expected;
        }

        boolean stalled() {
            return (state == ESTABLISHED || state == CLOSE_WAIT) && acked == sent && (unsent() > 0 || releasing);
        }

        /** The ranges of held positions: those after expected that have come. */
        List<int[]> ranges() {
            List<int[]> all = new ArrayList<>();
            for (int place : came.tailMap(expected, false).keySet()) {
                if (!all.isEmpty() && all.get(all.size() - 1)[1] == place) {
                    all.get(all.size() - 1)[1]++;
                } else {
                    all.add(new int[] {place, place + 1});
                }
            }
            return all;
        }
    }

    StringBuilder text = new StringBuilder();
    int segment = 4, buffer = 12, life = 5;
    int[] initial = {250, 100};
    Side[] sides = {new Side(0, 12), new Side(1, 12)};
    List<Packet> wire = new ArrayList<>();
    int time, sentCount, lostCount, resentCount, droppedCount;
    List<Integer> why = new ArrayList<>();

    // ---- the text

    int write(int letter) {
        if (letter < 32 || letter > 126) {
            return BAD;
        }
        if (text.length() == 200) {
            return FULL;
        }
        text.append((char) letter);
        return text.length();
    }

    int wipe() {
        int n = text.length();
        text = new StringBuilder();
        return n;
    }

    int[] described;

    int fault() {
        described = new int[] {4, 16, 0, 0, 5};
        int at = 0;
        Matcher m = ITEM.matcher(text);
        while (at < text.length()) {
            m.region(at, text.length());
            if (!m.lookingAt()) {
                return at;
            }
            if (m.group(1) == null) {
                int a = Integer.parseInt(m.group(3));
                int b = Integer.parseInt(m.group(4));
                if (a > 255 || b > 255) {
                    return at;
                }
                described[2] = a;
                described[3] = b;
            } else {
                int v = Integer.parseInt(m.group(2));
                char c = m.group(1).charAt(0);
                int least = c == 'b' ? 2 : 1;
                int most = c == 'p' ? 8 : c == 'b' ? 32 : 20;
                if (v < least || v > most) {
                    return at;
                }
                described[c == 'p' ? 0 : c == 'b' ? 1 : 4] = v;
            }
            at = m.end();
        }
        return NONE;
    }

    int lay() {
        if (fault() != NONE || described[1] < 2 * described[0]) {
            return NO;
        }
        segment = described[0];
        buffer = described[1];
        initial = new int[] {described[2], described[3]};
        life = described[4];
        sides = new Side[] {new Side(0, buffer), new Side(1, buffer)};
        wire.clear();
        time = 0;
        sentCount = 0;
        lostCount = 0;
        resentCount = 0;
        droppedCount = 0;
        why = new ArrayList<>();
        return segment;
    }

    // ---- numbers

    int numberOf(int stream, int position) {
        return Math.floorMod(initial[stream] + position, 256);
    }

    int near(int stream, int number, int p) {
        for (int position = p - 128; position <= p + 127; position++) {
            if (numberOf(stream, position) == number) {
                return position;
            }
        }
        throw new IllegalStateException();
    }

    // ---- sending

    void put(Packet p) {
        sentCount++;
        if (wire.size() == 20) {
            lostCount++;
        } else {
            wire.add(p);
        }
    }

    Packet withAck(Side s, int number) {
        Packet p = new Packet();
        p.from = s.me;
        p.number = number;
        p.ack = true;
        p.ackNumber = numberOf(1 - s.me, s.expected);
        p.window = s.window();
        for (int[] r : s.ranges()) {
            if (p.ranges.size() < 2) {
                p.ranges.add(new int[] {numberOf(1 - s.me, r[0]), numberOf(1 - s.me, r[1])});
            }
        }
        return p;
    }

    void pureAck(Side s) {
        put(withAck(s, numberOf(s.me, s.sent)));
    }

    void syn(Side s) {
        Packet p = withAck(s, numberOf(s.me, 0));
        p.syn = true;
        if (s.state == SYN_SENT) {
            p.ack = false;
            p.ackNumber = null;
            p.window = null;
            p.ranges.clear();
        }
        put(p);
        s.sent = 1;
    }

    void time(Side s, int last) {
        if (s.timed == null) {
            s.timed = last;
            s.timedAt = time;
        }
    }

    int data(Side s, int first, int n, boolean fin) {
        Packet p = withAck(s, numberOf(s.me, first));
        for (int k = 0; k < n; k++) {
            p.bytes.add(s.written.get(first + k - 1));
        }
        p.fin = fin;
        if (first < s.urgent) {
            p.urgentNumber = numberOf(s.me, s.urgent);
        }
        put(p);
        return p.length();
    }

    void rst(Side s, int number) {
        Packet p = new Packet();
        p.from = s.me;
        p.rst = true;
        p.number = number;
        put(p);
    }

    void rstFor(Side s, Packet q) {
        if (q.ack) {
            rst(s, q.ackNumber);
            return;
        }
        Packet p = new Packet();
        p.from = s.me;
        p.rst = true;
        p.ack = true;
        p.number = 0;
        p.ackNumber = (q.number + q.length()) % 256;
        p.window = 0;
        put(p);
    }

    void transmit(Side s) {
        boolean again = true;
        while (again && (s.state == ESTABLISHED || s.state == CLOSE_WAIT)) {
            again = false;
            int unsent = s.unsent();
            int n = Math.min(segment, Math.min(unsent, s.edge - s.sent));
            int length = 0;
            boolean fin = false;
            if (n == segment || (n >= 1 && n == unsent && (s.acked == s.sent || s.releasing))) {
                fin = s.releasing && n == unsent && s.sent + n < s.edge;
                length = data(s, s.sent, n, fin);
            } else if (unsent == 0 && s.releasing && s.sent < s.edge) {
                fin = true;
                length = data(s, s.written.size() + 1, 0, true);
            }
            if (length > 0) {
                time(s, s.sent + length - 1);
                s.sent += length;
                again = true;
                if (fin) {
                    s.state = s.state == ESTABLISHED ? FIN_WAIT_1 : LAST_ACK;
                }
            }
        }
    }

    void close(Side s) {
        s.state = CLOSED;
        s.timer = 0;
        s.waitTimer = 0;
    }

    void adjust(Side s) {
        if (s.state == CLOSED || s.state == LISTEN) {
            s.timer = 0;
        } else if (!(s.acked < s.sent) && !s.stalled()) {
            s.timer = 0;
        } else if (s.timer == 0) {
            s.timer = s.timeout;
        }
    }

    // ---- arriving

    /** Answers the reason and its cause; an empty list if it is accepted. */
    List<Integer> arrival(int i) {
        Packet p = wire.remove(i);
        Side s = sides[1 - p.from];
        List<Integer> reasons;
        if (s.state == CLOSED) {
            if (!p.rst) {
                rstFor(s, p);
            }
            reasons = List.of(1);
        } else if (s.state == LISTEN) {
            reasons = atListen(s, p);
        } else if (s.state == SYN_SENT) {
            reasons = atSynSent(s, p);
        } else {
            reasons = atOthers(s, p);
        }
        adjust(s);
        if (!reasons.isEmpty()) {
            droppedCount++;
        }
        return reasons;
    }

    List<Integer> atListen(Side s, Packet p) {
        if (p.rst) {
            return List.of(2);
        }
        if (p.ack) {
            rstFor(s, p);
            return List.of(3);
        }
        if (!p.syn) {
            return List.of(4);
        }
        s.expected = 1;
        s.state = SYN_RECEIVED;
        syn(s);
        time(s, 0);
        return List.of();
    }

    List<Integer> atSynSent(Side s, Packet p) {
        if (p.ack && near(s.me, p.ackNumber, s.acked) != 1) {
            if (p.rst) {
                return List.of(5, 2);
            }
            rstFor(s, p);
            return List.of(5);
        }
        if (p.rst) {
            if (!p.ack) {
                return List.of(2);
            }
            close(s);
            return List.of();
        }
        if (!p.syn) {
            return List.of(4);
        }
        s.expected = 1;
        if (p.ack) {
            acknowledge(s, p, 1);
            s.state = ESTABLISHED;
            pureAck(s);
            transmit(s);
        } else {
            s.state = SYN_RECEIVED;
            syn(s);
        }
        return List.of();
    }

    void acknowledge(Side s, Packet p, int q) {
        if (q > s.acked) {
            s.acked = q;
            s.timer = 0;
            if (s.timed != null && s.acked > s.timed) {
                int r = Math.max(1, time - s.timedAt);
                if (s.trips.isEmpty()) {
                    s.smoothed = 8 * r;
                    s.spread = 2 * r;
                } else {
                    int d = r - s.smoothed / 8;
                    s.smoothed += d;
                    s.spread += Math.abs(d) - s.spread / 4;
                }
                s.timeout = s.smoothed / 8 + s.spread;
                s.timeout = s.timeout < 2 ? 2 : s.timeout > 64 ? 64 : s.timeout;
                s.trips.add(0, r);
                s.timed = null;
            }
        }
        for (int[] r : p.ranges) {
            int from = near(s.me, r[0], s.acked);
            int to = near(s.me, r[1], s.acked);
            for (int position = from; position < to; position++) {
                if (position >= s.acked && position < s.sent) {
                    s.marked.add(position);
                }
            }
        }
        if (q + p.window > s.edge) {
            s.edge = q + p.window;
        }
    }

    boolean fits(Side s, Packet p, int place) {
        if (p.length() == 0) {
            return place == s.expected || (place > s.expected && place < s.limit);
        }
        for (int k = 0; k < p.length(); k++) {
            if (place + k >= s.expected && place + k < s.limit) {
                return true;
            }
        }
        return false;
    }

    List<Integer> atOthers(Side s, Packet p) {
        int peer = 1 - s.me;
        int place = near(peer, p.number, s.expected);
        if (!fits(s, p, place)) {
            int cause = s.window() == 0 ? 7 : place >= s.limit ? 8 : 9;
            if (!p.rst) {
                pureAck(s);
            }
            if (s.state == TIME_WAIT) {
                s.waitTimer = 2 * life;
            }
            return List.of(6, cause);
        }
        if (p.rst) {
            close(s);
            return List.of();
        }
        if (!p.ack) {
            return List.of(10);
        }
        int q = near(s.me, p.ackNumber, s.acked);
        if (s.state == SYN_RECEIVED) {
            if (q < 1 || q > s.sent) {
                rstFor(s, p);
                return List.of(5);
            }
            s.state = ESTABLISHED;
        } else if (q > s.sent) {
            pureAck(s);
            return List.of(5);
        }
        acknowledge(s, p, q);
        int ownFin = s.written.size() + 1;
        if (s.sent > ownFin && s.acked > ownFin) {
            if (s.state == FIN_WAIT_1) {
                s.state = FIN_WAIT_2;
            } else if (s.state == CLOSING) {
                s.state = TIME_WAIT;
                s.waitTimer = 2 * life;
            } else if (s.state == LAST_ACK) {
                close(s);
                return List.of();
            }
        }
        if (p.urgentNumber != null) {
            int u = near(peer, p.urgentNumber, s.expected);
            if (u > s.urged) {
                s.urged = u;
            }
        }
        if (s.state == ESTABLISHED || s.state == FIN_WAIT_1 || s.state == FIN_WAIT_2) {
            receiveBytes(s, p, place);
        }
        if (p.length() != 0) {
            pureAck(s);
        }
        transmit(s);
        return List.of();
    }

    void receiveBytes(Side s, Packet p, int place) {
        for (int k = 0; k < p.bytes.size(); k++) {
            int position = place + k;
            if (position >= s.expected && position < s.limit && !s.came.containsKey(position)) {
                s.came.put(position, p.bytes.get(k));
            }
        }
        int finPlace = place + p.bytes.size();
        if (p.fin && finPlace >= s.expected && finPlace < s.limit && s.fin == null) {
            s.fin = finPlace;
        }
        while (s.came.containsKey(s.expected)) {
            s.expected++;
        }
        if (s.fin != null && s.expected == s.fin) {
            s.expected++;
            switch (s.state) {
                case ESTABLISHED -> s.state = CLOSE_WAIT;
                case FIN_WAIT_1 -> s.state = CLOSING;
                default -> {
                    s.state = TIME_WAIT;
                    s.waitTimer = 2 * life;
                }
            }
        }
    }

    // ---- ticks

    void tick() {
        time++;
        for (Side s : sides) {
            if (s.waitTimer != 0 && --s.waitTimer == 0) {
                close(s);
            }
            if (s.timer != 0 && --s.timer == 0) {
                expired(s);
            }
        }
    }

    boolean isMarked(Side s, int position) {
        return position >= s.acked && s.marked.contains(position);
    }

    void expired(Side s) {
        int ownFin = s.written.size() + 1;
        if (s.acked < s.sent) {
            int x = s.acked;
            while (x < s.sent && isMarked(s, x)) {
                x++;
            }
            if (x < s.sent) {
                s.timed = null;
                resentCount++;
                if (x == 0) {
                    syn(s);
                } else {
                    int n = 0;
                    while (n < segment && x + n < ownFin && x + n < s.sent && !isMarked(s, x + n)) {
                        n++;
                    }
                    boolean fin = s.sent > ownFin && x + n == ownFin && !isMarked(s, ownFin);
                    data(s, x, n, fin);
                }
            }
        } else {
            if (!s.stalled()) {
                throw new IllegalStateException("a timer without a reason");
            }
            if (s.sent < s.edge) {
                int n = Math.min(segment, Math.min(s.unsent(), s.edge - s.sent));
                if (n < 1) {
                    throw new IllegalStateException("nothing to send");
                }
                data(s, s.sent, n, false);
                time(s, s.sent + n - 1);
                s.sent += n;
            } else {
                put(withAck(s, numberOf(s.me, s.sent - 1)));
            }
        }
        s.timeout = Math.min(64, 2 * s.timeout);
        adjust(s);
    }

    // ---- calls

    int open(int e, int kind) {
        if (e < 0 || e > 1 || kind < 0 || kind > 1) {
            return BAD;
        }
        if (sides[e].state != CLOSED) {
            return NO;
        }
        sides[e] = new Side(e, buffer);
        if (kind == 0) {
            sides[e].state = LISTEN;
        } else {
            sides[e].state = SYN_SENT;
            syn(sides[e]);
            time(sides[e], 0);
        }
        adjust(sides[e]);
        return wire.size();
    }

    boolean mayWrite(Side s) {
        return List.of(SYN_SENT, SYN_RECEIVED, ESTABLISHED, CLOSE_WAIT).contains(s.state) && !s.releasing;
    }

    int say(int e, int b) {
        if (e < 0 || e > 1 || b < 0 || b > 255) {
            return BAD;
        }
        Side s = sides[e];
        if (!mayWrite(s)) {
            return NO;
        }
        if (s.pending() == 32) {
            return FULL;
        }
        s.written.add(b);
        transmit(s);
        adjust(s);
        return s.pending();
    }

    int cry(int e) {
        if (e < 0 || e > 1) {
            return BAD;
        }
        Side s = sides[e];
        if (!mayWrite(s) || s.written.isEmpty()) {
            return NO;
        }
        s.urgent = s.written.size() + 1;
        adjust(s);
        return s.urgent;
    }

    int leave(int e) {
        if (e < 0 || e > 1) {
            return BAD;
        }
        Side s = sides[e];
        if (s.state == LISTEN || s.state == SYN_SENT) {
            close(s);
        } else if (List.of(SYN_RECEIVED, ESTABLISHED, CLOSE_WAIT).contains(s.state) && !s.releasing) {
            s.releasing = true;
            transmit(s);
            adjust(s);
        } else {
            return NO;
        }
        return s.state;
    }

    int quit(int e) {
        if (e < 0 || e > 1) {
            return BAD;
        }
        Side s = sides[e];
        int had = s.state;
        if (had == CLOSED) {
            return NO;
        }
        if (List.of(SYN_RECEIVED, ESTABLISHED, FIN_WAIT_1, FIN_WAIT_2, CLOSE_WAIT).contains(had)) {
            rst(s, numberOf(e, s.sent));
        }
        close(s);
        return had;
    }

    int take(int e) {
        if (e < 0 || e > 1) {
            return BAD;
        }
        Side s = sides[e];
        if (s.consumed >= s.expected || (s.fin != null && s.consumed == s.fin)) {
            return NONE;
        }
        int b = s.came.get(s.consumed);
        s.consumed++;
        int g = s.consumed + buffer - s.limit;
        int w = s.window();
        if (g >= segment || 2 * g >= buffer) {
            s.limit += g;
            if (w < segment && List.of(ESTABLISHED, FIN_WAIT_1, FIN_WAIT_2).contains(s.state)) {
                pureAck(s);
            }
        }
        adjust(s);
        return b;
    }

    boolean isThere(int i) {
        return i >= 0 && i < wire.size();
    }

    int arrive(int i) {
        if (!isThere(i)) {
            return BAD;
        }
        why = arrival(i);
        return why.isEmpty() ? 1 : 0;
    }

    int lose(int i) {
        if (!isThere(i)) {
            return BAD;
        }
        wire.remove(i);
        return wire.size();
    }

    int twice(int i) {
        if (!isThere(i)) {
            return BAD;
        }
        if (wire.size() == 20) {
            return FULL;
        }
        wire.add(wire.get(i));
        return wire.size();
    }

    int pass(int n) {
        if (n < 1 || n > 100) {
            return BAD;
        }
        for (int k = 0; k < n; k++) {
            tick();
        }
        return time;
    }

    int drive(int z, int n) {
        if (z < 0 || z > 9999 || n < 1 || n > 60) {
            return BAD;
        }
        for (int k = 0; k < n; k++) {
            long x = 7919L * z + 6151L * k + 1;
            long d = (x * x) % 65521;
            if (!wire.isEmpty() && d % 8 != 0) {
                int i = (int) ((d / 8) % wire.size());
                if (d / 256 % 8 == 0) {
                    lose(i);
                } else if (d / 256 % 8 == 1) {
                    twice(i);
                } else {
                    arrive(i);
                }
            } else {
                tick();
            }
        }
        return wire.size();
    }

    Reference copy() {
        Reference c = new Reference();
        c.segment = segment;
        c.buffer = buffer;
        c.life = life;
        c.initial = initial;
        c.sides = new Side[] {sides[0].copy(), sides[1].copy()};
        c.wire = new ArrayList<>(wire);
        c.time = time;
        c.sentCount = sentCount;
        return c;
    }

    int takable(int e) {
        int n = 0;
        while (take(e) != NONE) {
            n++;
        }
        return n;
    }

    int calm(int what) {
        if (what < 0 || what > 5) {
            return BAD;
        }
        Reference c = copy();
        int ticks = 0;
        while (ticks < 300 && (!c.wire.isEmpty() || c.sides[0].timer != 0 || c.sides[1].timer != 0
                || c.sides[0].state == TIME_WAIT || c.sides[1].state == TIME_WAIT)) {
            int m = c.wire.size();
            for (int k = 0; k < m; k++) {
                c.arrive(0);
            }
            c.tick();
            ticks++;
        }
        int sentMeanwhile = c.sentCount - sentCount;
        return switch (what) {
            case 0 -> ticks;
            case 1 -> c.sides[0].state;
            case 2 -> c.sides[1].state;
            case 3 -> c.takable(0);
            case 4 -> c.takable(1);
            default -> sentMeanwhile;
        };
    }

    int end(int e, int what) {
        if (e < 0 || e > 1 || what < 0 || what > 17) {
            return BAD;
        }
        Side s = sides[e];
        int[] all = {s.state, s.acked, s.sent, s.edge, s.pending(), s.expected, s.consumed, s.limit, s.timeout,
            s.smoothed, s.spread, s.timer, s.waitTimer, s.releasing ? 1 : 0, s.urgent, s.urged,
            s.timed == null ? NONE : s.timed, s.fin == null ? NONE : s.fin};
        return all[what];
    }

    int sample(int e, int i) {
        if (e < 0 || e > 1 || i < 0) {
            return BAD;
        }
        return i < 6 && i < sides[e].trips.size() ? sides[e].trips.get(i) : NONE;
    }

    int span(int e, int i, int what) {
        if (e < 0 || e > 1 || i < -1 || what < 0 || what > 1) {
            return BAD;
        }
        List<int[]> ranges = sides[e].ranges();
        return i == -1 ? ranges.size() : i < ranges.size() ? ranges.get(i)[what] : NONE;
    }

    int known(int e, int place) {
        if (e < 0 || e > 1 || place < 0) {
            return BAD;
        }
        return isMarked(sides[e], place) ? 1 : 0;
    }

    int letter(int i, int what) {
        if (!isThere(i) || what < 0 || what > 11) {
            return BAD;
        }
        Packet p = wire.get(i);
        int flags = (p.syn ? 1 : 0) + (p.fin ? 2 : 0) + (p.ack ? 4 : 0) + (p.rst ? 8 : 0);
        Integer[] all = {p.from, flags, p.number, p.ackNumber, p.window, p.bytes.size(), p.ranges.size(),
            p.urgentNumber, null, null, null, null};
        for (int k = 0; k < p.ranges.size(); k++) {
            all[8 + 2 * k] = p.ranges.get(k)[0];
            all[9 + 2 * k] = p.ranges.get(k)[1];
        }
        return all[what] == null ? NONE : all[what];
    }

    int byteOf(int i, int j) {
        if (!isThere(i) || j < 0) {
            return BAD;
        }
        return j < wire.get(i).bytes.size() ? wire.get(i).bytes.get(j) : NONE;
    }

    int cause(int i) {
        return i < 0 ? BAD : i < why.size() ? why.get(i) : NONE;
    }

    int count(int what) {
        int[] all = {segment, buffer, initial[0], initial[1], life, wire.size(), time, sentCount, lostCount,
            resentCount, droppedCount, text.length()};
        return what < 0 || what >= all.length ? BAD : all[what];
    }

    @Override
    public String toString() {
        return Arrays.toString(described) + " " + text;
    }
}
