import java.util.ArrayList;
import java.util.List;
import java.util.regex.Matcher;
import java.util.regex.Pattern;

/**
 * The document once more, written for plainness alone and apart from FairLink: it forgets nothing, counts by
 * looking at all packets and pieces, makes every step of every tick, and reads texts by a pattern.
 */
final class Model {
    static final int NO_SUCH = -1, BAD_VALUE = -2, BAD_TEXT = -3, TOO_MANY = -4, NOT_POSSIBLE = -5, NONE = -6;
    static final long GONE = -1000000000000000000L, UNIT = 720720;

    private enum Condition { WAITING, SENDING, SENT, DELIVERED, CANCELED }

    private static final class P {
        int number, flow, length, offered, deadline = NONE, sent, pieces, promoted, lastPiece, delivered = NONE;
        long start;
        Condition condition = Condition.WAITING;

        P copy() {
            P p = new P();
            p.number = number;
            p.flow = flow;
            p.length = length;
            p.offered = offered;
            p.deadline = deadline;
            p.sent = sent;
            p.pieces = pieces;
            p.promoted = promoted;
            p.lastPiece = lastPiece;
            p.delivered = delivered;
            p.start = start;
            p.condition = condition;
            return p;
        }

        boolean queued() {
            return condition == Condition.WAITING || condition == Condition.SENDING;
        }
    }

    private static final class F {
        int[] settings = {1, 20, 0, 0, 2};
        int idleness;
        long finish, forgiven, fluid, service, greatestLag;

        F copy() {
            F f = new F();
            f.settings = settings.clone();
            f.idleness = idleness;
            f.finish = finish;
            f.forgiven = forgiven;
            f.fluid = fluid;
            f.service = service;
            f.greatestLag = greatestLag;
            return f;
        }

        int weight() {
            return settings[0];
        }
    }

    private record Sent(int packet, int flow, int length, int header, int time, boolean promoted) { }

    private static final int[][] FLOW_RANGES = {{1, 16}, {1, 20}, {0, 1000}, {0, 1000}, {0, 2}};
    private static final int[][] LINK_RANGES = {{0, 50}, {0, 50}, {0, 1000}, {0, 1}};
    private static final String ARRIVAL = "([a-f])(2000|1\\d{3}|[1-9]\\d{0,2})(?:@([1-9]\\d{0,3}))?(?:\\*([1-9]))?";
    private static final Pattern ARRIVALS = Pattern.compile(ARRIVAL + "(?:," + ARRIVAL + ")*");
    private static final Pattern ONE_ARRIVAL = Pattern.compile(ARRIVAL);

    private List<P> packets = new ArrayList<>();
    private List<F> flows = new ArrayList<>();
    private List<Sent> pieces = new ArrayList<>();
    private int[] rules = {2, 1, 10, 1};
    private String pad = "";
    private int time, busy;
    private long v;
    private P sending;
    private int pieceLength, pieceHeader, pieceLeft;
    private boolean piecePromoted;
    private final Model[] slots = new Model[2];

    private Model copy() {
        Model m = new Model();
        m.take(this);
        return m;
    }

    private void take(Model m) {
        packets = new ArrayList<>();
        for (P p : m.packets) {
            packets.add(p.copy());
        }
        flows = new ArrayList<>();
        for (F f : m.flows) {
            flows.add(f.copy());
        }
        pieces = new ArrayList<>(m.pieces);
        rules = m.rules.clone();
        pad = m.pad;
        time = m.time;
        busy = m.busy;
        v = m.v;
        sending = m.sending == null ? null : packets.get(m.sending.number);
        pieceLength = m.pieceLength;
        pieceHeader = m.pieceHeader;
        pieceLeft = m.pieceLeft;
        piecePromoted = m.piecePromoted;
    }

    private static boolean in(long value, long least, long greatest) {
        return value >= least && value <= greatest;
    }

    private boolean noFlow(int flow) {
        return !in(flow, 0, flows.size() - 1);
    }

    private boolean noPacket(int packet) {
        return !in(packet, Math.max(0, packets.size() - 120), packets.size() - 1);
    }

    private List<P> queue(int flow) {
        List<P> queue = new ArrayList<>();
        for (int i = Math.max(0, packets.size() - 120); i < packets.size(); i++) {
            if (packets.get(i).flow == flow && packets.get(i).queued()) {
                queue.add(packets.get(i));
            }
        }
        return queue;
    }

    private P head(int flow) {
        List<P> queue = queue(flow);
        return queue.isEmpty() ? null : queue.get(0);
    }

    private long tagOrFinish(int flow) {
        P head = head(flow);
        F f = flows.get(flow);
        return head == null ? f.finish : head.start + head.sent * UNIT / f.weight();
    }

    private int sentOf(int flow) {
        int sum = 0;
        for (Sent s : pieces) {
            sum += s.flow == flow ? s.length : 0;
        }
        return sum;
    }

    int addFlow(int weight) {
        if (!in(weight, 1, 16)) {
            return BAD_VALUE;
        }
        if (flows.size() == 6) {
            return TOO_MANY;
        }
        F f = new F();
        f.settings[0] = weight;
        flows.add(f);
        return flows.size() - 1;
    }

    int set(int flow, int setting, int value) {
        if (noFlow(flow)) {
            return NO_SUCH;
        }
        if (!in(setting, 0, 4) || !in(value, FLOW_RANGES[setting][0], FLOW_RANGES[setting][1])) {
            return BAD_VALUE;
        }
        int before = flows.get(flow).settings[setting];
        flows.get(flow).settings[setting] = value;
        return before;
    }

    int rule(int setting, int value) {
        if (!in(setting, 0, 3) || !in(value, LINK_RANGES[setting][0], LINK_RANGES[setting][1])) {
            return BAD_VALUE;
        }
        int before = rules[setting];
        rules[setting] = value;
        return before;
    }

    int offer(int flow, int length, int deadline) {
        if (noFlow(flow)) {
            return NO_SUCH;
        }
        if (!in(length, 1, 2000) || !in(deadline, 0, 9999)) {
            return BAD_VALUE;
        }
        F f = flows.get(flow);
        if (queue(flow).size() >= f.settings[1]) {
            return TOO_MANY;
        }
        int lost = packets.size() - 120;
        if (lost >= 0 && (packets.get(lost).queued() || packets.get(lost).condition == Condition.SENT)) {
            return TOO_MANY;
        }
        P p = new P();
        p.number = packets.size();
        p.flow = flow;
        p.length = length;
        p.offered = time;
        if (deadline > 0) {
            p.deadline = time + deadline;
        }
        p.start = Math.max(v, f.finish);
        f.finish = p.start + length * UNIT / f.weight();
        f.fluid += length * UNIT;
        packets.add(p);
        return p.number;
    }

    int cancel(int packet) {
        if (noPacket(packet)) {
            return NO_SUCH;
        }
        P p = packets.get(packet);
        if (p.condition != Condition.WAITING || p.sent != 0) {
            return NOT_POSSIBLE;
        }
        p.condition = Condition.CANCELED;
        return queue(p.flow).size();
    }

    int packet(int packet, int what) {
        if (noPacket(packet)) {
            return NO_SUCH;
        }
        if (!in(what, 0, 9)) {
            return BAD_VALUE;
        }
        P p = packets.get(packet);
        int urgent = p.queued() && urgent(p) ? 1 : 0;
        return new int[] {p.flow, p.length, p.offered, p.deadline, p.condition.ordinal(), p.sent, p.pieces, p.promoted, p.delivered, urgent}[what];
    }

    long start(int packet) {
        return noPacket(packet) ? GONE + NO_SUCH : packets.get(packet).start;
    }

    int put(long characters) {
        StringBuilder text = new StringBuilder();
        boolean ended = false;
        for (int i = 0; i < 8; i++) {
            int code = (int) (characters >>> 8 * i) & 255;
            if (code == 0) {
                ended = true;
            } else if (ended || !in(code, 33, 126)) {
                return BAD_VALUE;
            } else {
                text.insert(0, (char) code);
            }
        }
        if (text.isEmpty()) {
            return BAD_VALUE;
        }
        if (pad.length() + text.length() > 80) {
            return TOO_MANY;
        }
        pad += text;
        return pad.length();
    }

    int wipe() {
        int length = pad.length();
        pad = "";
        return length;
    }

    int fault() {
        for (int i = 0; i < pad.length(); i++) {
            Matcher matcher = ARRIVALS.matcher(pad.substring(0, i + 1));
            if (!matcher.matches() && !matcher.hitEnd()) {
                return i;
            }
        }
        return ARRIVALS.matcher(pad).matches() ? NONE : pad.length();
    }

    int load() {
        if (fault() != NONE) {
            return BAD_TEXT;
        }
        Matcher all = ONE_ARRIVAL.matcher(pad);
        while (all.find()) {
            if (noFlow(all.group(1).charAt(0) - 'a')) {
                return NO_SUCH;
            }
        }
        int accepted = 0;
        Matcher matcher = ONE_ARRIVAL.matcher(pad);
        while (matcher.find()) {
            int deadline = matcher.group(3) == null ? 0 : Integer.parseInt(matcher.group(3));
            int count = matcher.group(4) == null ? 1 : Integer.parseInt(matcher.group(4));
            for (int i = 0; i < count; i++) {
                if (offer(matcher.group(1).charAt(0) - 'a', Integer.parseInt(matcher.group(2)), deadline) >= 0) {
                    accepted++;
                }
            }
        }
        pad = "";
        return accepted;
    }

    int advance(int ticks) {
        if (!in(ticks, 1, 2000)) {
            return BAD_VALUE;
        }
        if (time + ticks > 1000000) {
            return NOT_POSSIBLE;
        }
        for (int i = 0; i < ticks; i++) {
            tick();
        }
        return time;
    }

    int awaitDelivery(int most) {
        if (!in(most, 1, 2000)) {
            return BAD_VALUE;
        }
        if (time + most > 1000000) {
            return NOT_POSSIBLE;
        }
        for (int i = 0; i < most; i++) {
            tick();
            for (int n = Math.max(0, packets.size() - 120); n < packets.size(); n++) {
                if (packets.get(n).delivered == time) {
                    return n;
                }
            }
        }
        return NONE;
    }

    private void tick() {
        time++;
        if (sending != null) {
            busy++;
            pieceLeft--;
            if (pieceLeft == 0) {
                endPiece();
            }
        }
        for (int n = Math.max(0, packets.size() - 120); n < packets.size(); n++) {
            P p = packets.get(n);
            if (p.condition == Condition.SENT && time - p.lastPiece >= rules[1]) {
                p.condition = Condition.DELIVERED;
                p.delivered = time;
            }
        }
        for (int i = 0; i < flows.size(); i++) {
            idle(i);
        }
        fluid();
        if (sending == null) {
            int next = next();
            if (next != NONE) {
                beginPiece(next);
            }
        }
        for (int i = 0; i < flows.size(); i++) {
            flows.get(i).greatestLag = Math.max(flows.get(i).greatestLag, lag(i));
        }
    }

    private void endPiece() {
        P p = sending;
        sending = null;
        pieces.add(new Sent(p.number, p.flow, pieceLength, pieceHeader, time, piecePromoted));
        p.sent += pieceLength;
        p.pieces++;
        p.promoted += piecePromoted ? 1 : 0;
        p.lastPiece = time;
        if (p.sent < p.length) {
            p.condition = Condition.WAITING;
        } else if (p.pieces >= 2 && rules[1] > 0) {
            p.condition = Condition.SENT;
        } else {
            p.condition = Condition.DELIVERED;
            p.delivered = time;
        }
    }

    private void idle(int flow) {
        F f = flows.get(flow);
        if (head(flow) == null) {
            f.idleness++;
        } else {
            f.idleness = 0;
        }
        if (f.settings[3] > 0 && f.settings[4] != 0 && f.idleness >= f.settings[3]) {
            f.idleness = 0;
            if (f.finish > v) {
                long before = f.finish;
                f.finish = f.settings[4] == 2 ? v : v + (f.finish - v) / 2;
                f.forgiven += before - f.finish;
            }
        }
    }

    private void fluid() {
        int w = 0;
        List<F> wet = new ArrayList<>();
        for (F f : flows) {
            if (f.fluid > 0) {
                wet.add(f);
                w += f.weight();
            }
        }
        for (F f : wet) {
            long loss = Math.min(UNIT * f.weight() / w, f.fluid);
            f.fluid -= loss;
            f.service += loss;
        }
    }

    private long lag(int flow) {
        return flows.get(flow).service - UNIT * sentOf(flow);
    }

    private boolean urgent(P p) {
        int rest = p.length - p.sent;
        int split = flows.get(p.flow).settings[2];
        int ticks = rules[0] + rest;
        if (split > 0 && rest > split) {
            ticks = rest + rules[0] * ((rest + split - 1) / split);
        }
        return rules[3] == 1 && p.deadline != NONE && time + ticks + rules[2] >= p.deadline;
    }

    private int next() {
        int best = NONE;
        for (int i = 0; i < flows.size(); i++) {
            P head = head(i);
            if (head != null && urgent(head) && (best == NONE || head.deadline < head(best).deadline)) {
                best = i;
            }
        }
        if (best != NONE) {
            return best;
        }
        for (int i = 0; i < flows.size(); i++) {
            if (head(i) != null && (best == NONE || tagOrFinish(i) < tagOrFinish(best))) {
                best = i;
            }
        }
        return best;
    }

    private void beginPiece(int flow) {
        boolean anyUrgent = false;
        for (int i = 0; i < flows.size(); i++) {
            anyUrgent |= head(i) != null && urgent(head(i));
        }
        if (!anyUrgent && tagOrFinish(flow) > v) {
            v = tagOrFinish(flow);
        }
        int split = flows.get(flow).settings[2];
        sending = head(flow);
        sending.condition = Condition.SENDING;
        pieceLength = sending.length - sending.sent;
        if (split != 0 && pieceLength > split) {
            pieceLength = split;
        }
        pieceHeader = rules[0];
        pieceLeft = pieceHeader + pieceLength;
        piecePromoted = anyUrgent;
    }

    int flow(int flow, int what) {
        if (noFlow(flow)) {
            return NO_SUCH;
        }
        if (!in(what, 0, 14)) {
            return BAD_VALUE;
        }
        if (what <= 4) {
            return flows.get(flow).settings[what];
        }
        int unsent = 0;
        for (P p : queue(flow)) {
            unsent += p.length - p.sent;
        }
        int delivered = 0;
        int late = 0;
        int greatest = 0;
        int sum = 0;
        int offered = 0;
        for (P p : packets) {
            if (p.flow == flow) {
                offered++;
                if (p.condition == Condition.DELIVERED) {
                    int delay = p.delivered - p.offered;
                    delivered++;
                    late += p.deadline != NONE && p.delivered > p.deadline ? 1 : 0;
                    greatest = Math.max(greatest, delay);
                    sum += delay;
                }
            }
        }
        int first = head(flow) == null ? NONE : head(flow).number;
        return new int[] {queue(flow).size(), first, unsent, sentOf(flow), delivered, late, flows.get(flow).idleness, greatest, sum, offered}[what - 5];
    }

    long amount(int flow, int what) {
        if (noFlow(flow)) {
            return GONE + NO_SUCH;
        }
        if (!in(what, 0, 7)) {
            return GONE + BAD_VALUE;
        }
        F f = flows.get(flow);
        long tag = tagOrFinish(flow);
        return new long[] {f.finish, tag, Math.max(0, tag - v), f.forgiven, f.fluid, f.service, lag(flow), f.greatestLag}[what];
    }

    long virtualTime() {
        return v;
    }

    int link(int what) {
        if (!in(what, 0, 16)) {
            return BAD_VALUE;
        }
        if (what >= 1 && what <= 4) {
            return rules[what - 1];
        }
        boolean on = sending != null;
        switch (what) {
            case 0:
                return time;
            case 5:
                return flows.size();
            case 6:
                return packets.size();
            case 7:
                return on ? sending.number : NONE;
            case 8:
                return on ? pieceLength : 0;
            case 9:
                return on ? pieceLeft : 0;
            case 10:
                return on && piecePromoted ? 1 : 0;
            case 11:
                return pad.length();
            case 12:
                return busy;
            case 13:
                return pieces.stream().mapToInt(Sent::header).sum();
            case 14:
                return next();
            case 15:
                return pieces.size();
            default:
                return packets.isEmpty() ? NONE : Math.max(0, packets.size() - 120);
        }
    }

    int piece(int piece, int what) {
        if (!in(what, 0, 4)) {
            return BAD_VALUE;
        }
        if (!in(piece, Math.max(0, pieces.size() - 60), pieces.size() - 1)) {
            return NONE;
        }
        Sent s = pieces.get(piece);
        return new int[] {s.packet, s.flow, s.length, s.time, s.promoted ? 1 : 0}[what];
    }

    long apart(int one, int other) {
        if (noFlow(one) || noFlow(other)) {
            return GONE + NO_SUCH;
        }
        return Math.abs(sentOf(one) * UNIT / flows.get(one).weight() - sentOf(other) * UNIT / flows.get(other).weight());
    }

    /** Ticks until the packet is DELIVERED, by this model itself; NONE if that takes more. */
    private int wait(int packet, int most) {
        for (int i = 0; i <= most; i++) {
            if (packets.get(packet).condition == Condition.DELIVERED) {
                return i;
            }
            tick();
        }
        return NONE;
    }

    int forecast(int packet, int most) {
        if (noPacket(packet)) {
            return NO_SUCH;
        }
        return in(most, 1, 2000) ? copy().wait(packet, most) : BAD_VALUE;
    }

    int leastWeight(int packet, int ticks) {
        if (noPacket(packet)) {
            return NO_SUCH;
        }
        if (!in(ticks, 1, 1000)) {
            return BAD_VALUE;
        }
        if (!packets.get(packet).queued()) {
            return NOT_POSSIBLE;
        }
        for (int weight = 1; weight <= 16; weight++) {
            Model trial = copy();
            trial.flows.get(packets.get(packet).flow).settings[0] = weight;
            if (trial.wait(packet, ticks) != NONE) {
                return weight;
            }
        }
        return NONE;
    }

    int bestSplit(int flow, int first, int step, int count, int ticks) {
        if (noFlow(flow)) {
            return NO_SUCH;
        }
        if (!in(first, 0, 1000) || !in(step, 1, 500) || !in(count, 1, 6) || !in(ticks, 1, 1000)) {
            return BAD_VALUE;
        }
        if (first + step * (count - 1) > 1000) {
            return BAD_VALUE;
        }
        List<P> asked = new ArrayList<>();
        for (int i = 0; i < flows.size(); i++) {
            asked.addAll(queue(i));
        }
        if (asked.isEmpty()) {
            return NOT_POSSIBLE;
        }
        long[] delays = new long[count];
        int best = 0;
        for (int i = 0; i < count; i++) {
            Model trial = copy();
            trial.flows.get(flow).settings[2] = first + i * step;
            trial.advanceAnyway(ticks);
            for (P p : asked) {
                P then = trial.packets.get(p.number);
                delays[i] = Math.max(delays[i], then.condition == Condition.DELIVERED ? then.delivered - then.offered : Long.MAX_VALUE);
            }
            best = delays[i] < delays[best] ? i : best;
        }
        return first + best * step;
    }

    private void advanceAnyway(int ticks) {
        for (int i = 0; i < ticks; i++) {
            tick();
        }
    }

    int save(int slot) {
        if (!in(slot, 0, 1)) {
            return BAD_VALUE;
        }
        slots[slot] = copy();
        return time;
    }

    int restore(int slot) {
        if (!in(slot, 0, 1)) {
            return BAD_VALUE;
        }
        if (slots[slot] == null) {
            return NOT_POSSIBLE;
        }
        take(slots[slot]);
        return time;
    }
}
