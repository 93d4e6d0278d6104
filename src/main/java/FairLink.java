/**
 * A link that packets of several flows share fairly: virtual start times in exact fractions,
 * packets that are split into pieces, deadlines that promote packets, debts of promoted flows
 * that are forgiven after idleness, a comparison with an ideal fluid link, arrivals read from
 * texts, and forecasts.
 *
 * This class checks arguments and chooses the answers; State does what the ticks do.
 */
public final class FairLink {
    public static final int NO_SUCH = -1, BAD_VALUE = -2, BAD_TEXT = -3, TOO_MANY = -4, NOT_POSSIBLE = -5, NONE = -6;
    public static final long GONE = -1000000000000000000L;
    public static final int UNIT = 720720;
    public static final int WEIGHT = 0, ROOM = 1, SPLIT = 2, PATIENCE = 3, MERCY = 4;
    public static final int HEADER = 0, JOINING = 1, MARGIN = 2, PROMOTION = 3;
    public static final int NOTHING = 0, HALF = 1, ALL = 2;
    public static final int WAITING = 0, SENDING = 1, SENT = 2, DELIVERED = 3, CANCELED = 4;

    private static final int MOST_FLOWS = 6, KNOWN_PACKETS = 120, KNOWN_PIECES = 60, SLOTS = 2;
    private static final int LONGEST_PAD = 80, MOST_CHARACTERS = 8;
    private static final int GREATEST_WEIGHT = 16, GREATEST_ROOM = 20, GREATEST_SPLIT = 1000;
    private static final int GREATEST_LENGTH = 2000, GREATEST_DEADLINE = 9999, GREATEST_COUNT = 9;
    private static final int LAST_TIME = 1000000, MOST_TICKS = 2000, MOST_FORECAST_TICKS = 1000;
    private static final int GREATEST_STEP = 500, MOST_SPLITS = 6;
    private static final int GREATER_THAN_ANY_DELAY = 2147483647;

    // Indexed by the setting, WEIGHT to MERCY and HEADER to PROMOTION; the least value of each link setting is 0.
    private static final int[] FLOW_LEAST = {1, 1, 0, 0, 0};
    private static final int[] FLOW_GREATEST = {16, 20, 1000, 1000, 2};
    private static final int[] FLOW_FIRST = {1, 20, 0, 0, 2};
    private static final int[] LINK_GREATEST = {50, 50, 1000, 1};
    private static final int[] LINK_FIRST = {2, 1, 10, 1};

    private final State now;
    private final State[] slots;
    // The forecasts' copy and the slots are made at their first use, so that an object that needs none stays small.
    private State copy;

    public FairLink() {
        now = new State();
        slots = new State[SLOTS];
        copy = null;
    }

    // ---- settings

    public int addFlow(int weight) {
        if (weight < 1 || weight > GREATEST_WEIGHT) {
            return BAD_VALUE;
        }
        if (now.flowCount >= MOST_FLOWS) {
            return TOO_MANY;
        }
        return now.openFlow(weight);
    }

    public int set(int flow, int setting, int value) {
        if (!now.hasFlow(flow)) {
            return NO_SUCH;
        }
        if (setting < WEIGHT || setting > MERCY) {
            return BAD_VALUE;
        }
        if (value < FLOW_LEAST[setting] || value > FLOW_GREATEST[setting]) {
            return BAD_VALUE;
        }
        int previous = now.flows[flow].settings[setting];
        now.flows[flow].settings[setting] = value;
        return previous;
    }

    public int rule(int setting, int value) {
        if (setting < HEADER || setting > PROMOTION) {
            return BAD_VALUE;
        }
        if (value < 0 || value > LINK_GREATEST[setting]) {
            return BAD_VALUE;
        }
        int previous = now.settings[setting];
        now.settings[setting] = value;
        return previous;
    }

    // ---- packets

    public int offer(int flow, int length, int deadline) {
        if (!now.hasFlow(flow)) {
            return NO_SUCH;
        }
        if (length < 1 || length > GREATEST_LENGTH || deadline < 0 || deadline > GREATEST_DEADLINE) {
            return BAD_VALUE;
        }
        if (!now.canAccept(flow)) {
            return TOO_MANY;
        }
        return now.accept(flow, length, deadline);
    }

    public int cancel(int packet) {
        if (!now.knowsPacket(packet)) {
            return NO_SUCH;
        }
        Packet canceled = now.packetAt(packet);
        if (canceled.condition != WAITING || canceled.sent > 0) {
            return NOT_POSSIBLE;
        }
        Flow flow = now.flows[canceled.flow];
        canceled.condition = CANCELED;
        flow.leaveQueue(packet);
        return flow.queued;
    }

    public int packet(int packet, int what) {
        if (!now.knowsPacket(packet)) {
            return NO_SUCH;
        }
        Packet asked = now.packetAt(packet);
        switch (what) {
            case 0:
                return asked.flow;
            case 1:
                return asked.length;
            case 2:
                return asked.offeredAt;
            case 3:
                return asked.deadline;
            case 4:
                return asked.condition;
            case 5:
                return asked.sent;
            case 6:
                return asked.pieces;
            case 7:
                return asked.promotedPieces;
            case 8:
                return asked.deliveredAt;
            case 9:
                return asked.isQueued() && now.isUrgent(asked) ? 1 : 0;
            default:
                return BAD_VALUE;
        }
    }

    public long start(int packet) {
        if (!now.knowsPacket(packet)) {
            return GONE + NO_SUCH;
        }
        return now.packetAt(packet).start;
    }

    // ---- texts

    public int put(long characters) {
        int count = countCharacters(characters);
        if (count < 1) {
            return BAD_VALUE;
        }
        if (now.pad.size + count > LONGEST_PAD) {
            return TOO_MANY;
        }
        now.pad.append(characters, count);
        return now.pad.size;
    }

    public int wipe() {
        int size = now.pad.size;
        now.pad.size = 0;
        return size;
    }

    public int fault() {
        return now.pad.findFault();
    }

    public int load() {
        if (now.pad.findFault() != NONE) {
            return BAD_TEXT;
        }
        if (!hasFlowsOfPad()) {
            return NO_SUCH;
        }
        int accepted = acceptArrivals();
        now.pad.size = 0;
        return accepted;
    }

    // ---- time

    public int advance(int ticks) {
        if (ticks < 1 || ticks > MOST_TICKS) {
            return BAD_VALUE;
        }
        if (now.time + ticks > LAST_TIME) {
            return NOT_POSSIBLE;
        }
        for (int tick = 0; tick < ticks; tick++) {
            now.makeTick();
        }
        return now.time;
    }

    public int awaitDelivery(int most) {
        if (most < 1 || most > MOST_TICKS) {
            return BAD_VALUE;
        }
        if (now.time + most > LAST_TIME) {
            return NOT_POSSIBLE;
        }
        for (int tick = 0; tick < most; tick++) {
            now.makeTick();
            if (now.lowestDelivered != NONE) {
                return now.lowestDelivered;
            }
        }
        return NONE;
    }

    // ---- what there is

    public int flow(int flow, int what) {
        if (!now.hasFlow(flow)) {
            return NO_SUCH;
        }
        Flow asked = now.flows[flow];
        if (what >= WEIGHT && what <= MERCY) {
            return asked.settings[what];
        }
        switch (what) {
            case 5:
                return asked.queued;
            case 6:
                return asked.head();
            case 7:
                return now.unsentLength(asked);
            case 8:
                return asked.sent;
            case 9:
                return asked.delivered;
            case 10:
                return asked.late;
            case 11:
                return asked.idleness;
            case 12:
                return asked.greatestDelay;
            case 13:
                return asked.sumOfDelays;
            case 14:
                return asked.offered;
            default:
                return BAD_VALUE;
        }
    }

    public long amount(int flow, int what) {
        if (!now.hasFlow(flow)) {
            return GONE + NO_SUCH;
        }
        Flow asked = now.flows[flow];
        switch (what) {
            case 0:
                return asked.finish;
            case 1:
                return now.tagOrFinish(asked);
            case 2:
                return Math.max(0L, now.tagOrFinish(asked) - now.virtual);
            case 3:
                return asked.forgiven;
            case 4:
                return asked.fluid;
            case 5:
                return asked.service;
            case 6:
                return asked.lag();
            case 7:
                return asked.greatestLag;
            default:
                return GONE + BAD_VALUE;
        }
    }

    public long virtualTime() {
        return now.virtual;
    }

    public int link(int what) {
        if (what >= 1 && what <= 4) {
            return now.settings[what - 1];
        }
        switch (what) {
            case 0:
                return now.time;
            case 5:
                return now.flowCount;
            case 6:
                return now.packetCount;
            case 7:
                return now.current.packet;
            case 8:
                return now.current.length;
            case 9:
                return now.current.left;
            case 10:
                return now.current.promoted ? 1 : 0;
            case 11:
                return now.pad.size;
            case 12:
                return now.busyTicks;
            case 13:
                return now.headerTicks;
            case 14:
                return now.nextFlow();
            case 15:
                return now.pieceCount;
            case 16:
                return now.packetCount == 0 ? NONE : now.oldestPacket();
            default:
                return BAD_VALUE;
        }
    }

    public int piece(int piece, int what) {
        if (what < 0 || what > 4) {
            return BAD_VALUE;
        }
        if (!now.knowsPiece(piece)) {
            return NONE;
        }
        Piece asked = now.pieceAt(piece);
        switch (what) {
            case 0:
                return asked.packet;
            case 1:
                return asked.flow;
            case 2:
                return asked.length;
            case 3:
                return asked.sentAt;
            default:
                return asked.promoted ? 1 : 0;
        }
    }

    public long apart(int one, int other) {
        if (!now.hasFlow(one) || !now.hasFlow(other)) {
            return GONE + NO_SUCH;
        }
        Flow first = now.flows[one];
        Flow second = now.flows[other];
        return Math.abs(first.share(first.sent) - second.share(second.sent));
    }

    // ---- forecasts; they simulate a copy

    public int forecast(int packet, int most) {
        if (!now.knowsPacket(packet)) {
            return NO_SUCH;
        }
        if (most < 1 || most > MOST_TICKS) {
            return BAD_VALUE;
        }
        if (now.packetAt(packet).condition == DELIVERED) {
            return 0;
        }
        return freshCopy().ticksUntilDelivery(packet, most);
    }

    public int leastWeight(int packet, int ticks) {
        if (!now.knowsPacket(packet)) {
            return NO_SUCH;
        }
        if (ticks < 1 || ticks > MOST_FORECAST_TICKS) {
            return BAD_VALUE;
        }
        Packet asked = now.packetAt(packet);
        if (!asked.isQueued()) {
            return NOT_POSSIBLE;
        }
        for (int weight = 1; weight <= GREATEST_WEIGHT; weight++) {
            State trial = freshCopy();
            trial.flows[asked.flow].settings[WEIGHT] = weight;
            if (trial.ticksUntilDelivery(packet, ticks) != NONE) {
                return weight;
            }
        }
        return NONE;
    }

    public int bestSplit(int flow, int first, int step, int count, int ticks) {
        if (!now.hasFlow(flow)) {
            return NO_SUCH;
        }
        if (!areSplits(first, step, count) || ticks < 1 || ticks > MOST_FORECAST_TICKS) {
            return BAD_VALUE;
        }
        if (now.areQueuesEmpty()) {
            return NOT_POSSIBLE;
        }
        int best = first;
        int leastDelay = GREATER_THAN_ANY_DELAY;
        for (int i = 0; i < count; i++) {
            int split = first + i * step;
            int delay = greatestDelayWith(flow, split, ticks);
            if (delay < leastDelay) {
                leastDelay = delay;
                best = split;
            }
        }
        return best;
    }

    // ---- saving

    public int save(int slot) {
        if (slot < 0 || slot >= SLOTS) {
            return BAD_VALUE;
        }
        if (slots[slot] == null) {
            slots[slot] = new State();
        }
        slots[slot].copyFrom(now);
        return now.time;
    }

    public int restore(int slot) {
        if (slot < 0 || slot >= SLOTS) {
            return BAD_VALUE;
        }
        if (slots[slot] == null) {
            return NOT_POSSIBLE;
        }
        now.copyFrom(slots[slot]);
        return now.time;
    }

    // ---- helpers

    /** How many characters a number holds; 0 if one of them, or what stands above them, is not allowed. */
    private static int countCharacters(long characters) {
        for (int i = 0; i < MOST_CHARACTERS; i++) {
            long rest = characters >>> (8 * i);
            if (rest == 0) {
                return i;
            }
            long code = rest & 255;
            if (code < 33 || code > 126) {
                return 0;
            }
        }
        return MOST_CHARACTERS;
    }

    /** Whether there are all flows that the pad names, which must have no fault. */
    private boolean hasFlowsOfPad() {
        Pad pad = now.pad;
        pad.rewind();
        for (int i = 0; i < LONGEST_PAD && pad.readNext(); i++) {
            if (!now.hasFlow(pad.flow)) {
                return false;
            }
        }
        return true;
    }

    /** The pad must have no fault and name no flow that is missing. */
    private int acceptArrivals() {
        Pad pad = now.pad;
        int accepted = 0;
        pad.rewind();
        for (int i = 0; i < LONGEST_PAD && pad.readNext(); i++) {
            for (int j = 0; j < pad.count; j++) {
                if (now.canAccept(pad.flow)) {
                    now.accept(pad.flow, pad.length, pad.deadline);
                    accepted++;
                }
            }
        }
        return accepted;
    }

    private static boolean areSplits(int first, int step, int count) {
        if (first < 0 || first > GREATEST_SPLIT || step < 1 || step > GREATEST_STEP) {
            return false;
        }
        if (count < 1 || count > MOST_SPLITS) {
            return false;
        }
        return first + step * (count - 1) <= GREATEST_SPLIT;
    }

    private State freshCopy() {
        if (copy == null) {
            copy = new State();
        }
        copy.copyFrom(now);
        return copy;
    }

    /** Of the packets that are in queues now; GREATER_THAN_ANY_DELAY if one of them is not DELIVERED within the ticks. */
    private int greatestDelayWith(int flow, int split, int ticks) {
        State trial = freshCopy();
        trial.flows[flow].settings[SPLIT] = split;
        for (int tick = 0; tick < ticks; tick++) {
            trial.makeDeliveryTick();
        }
        int greatest = 0;
        for (int number = now.oldestPacket(); number < now.packetCount; number++) {
            if (now.packetAt(number).isQueued()) {
                Packet packet = trial.packetAt(number);
                if (packet.condition != DELIVERED) {
                    return GREATER_THAN_ANY_DELAY;
                }
                greatest = Math.max(greatest, packet.delay());
            }
        }
        return greatest;
    }

    /** A packet; State keeps 120 of them and uses them again for later ones. */
    private static final class Packet {
        int flow;
        int length;
        int offeredAt;
        int deadline;
        int condition;
        int sent;
        int pieces;
        int promotedPieces;
        int lastSentAt;
        int deliveredAt;
        long start;

        void begin(int itsFlow, int itsLength, int time, int itsDeadline, long itsStart) {
            flow = itsFlow;
            length = itsLength;
            offeredAt = time;
            deadline = itsDeadline;
            condition = WAITING;
            sent = 0;
            pieces = 0;
            promotedPieces = 0;
            lastSentAt = NONE;
            deliveredAt = NONE;
            start = itsStart;
        }

        boolean isQueued() {
            return condition == WAITING || condition == SENDING;
        }

        int unsent() {
            return length - sent;
        }

        int delay() {
            return deliveredAt - offeredAt;
        }

        boolean isLate() {
            return deadline != NONE && deliveredAt > deadline;
        }

        void copyFrom(Packet other) {
            flow = other.flow;
            length = other.length;
            offeredAt = other.offeredAt;
            deadline = other.deadline;
            condition = other.condition;
            sent = other.sent;
            pieces = other.pieces;
            promotedPieces = other.promotedPieces;
            lastSentAt = other.lastSentAt;
            deliveredAt = other.deliveredAt;
            start = other.start;
        }
    }

    /** A piece of a packet: the one that is being sent, or one that has been sent. */
    private static final class Piece {
        int packet;
        int flow;
        int length;
        int header;
        int left;
        int sentAt;
        boolean promoted;

        Piece() {
            clear();
        }

        void clear() {
            packet = NONE;
            flow = NONE;
            length = 0;
            header = 0;
            left = 0;
            sentAt = NONE;
            promoted = false;
        }

        void copyFrom(Piece other) {
            packet = other.packet;
            flow = other.flow;
            length = other.length;
            header = other.header;
            left = other.left;
            sentAt = other.sentAt;
            promoted = other.promoted;
        }
    }

    /** A flow: its settings, its queue of packet numbers, and what is counted of it. */
    private static final class Flow {
        final int[] settings;
        final int[] queue;
        int queued;
        int sent;
        int delivered;
        int late;
        int idleness;
        int greatestDelay;
        int sumOfDelays;
        int offered;
        long finish;
        long forgiven;
        long fluid;
        long service;
        long greatestLag;

        Flow() {
            settings = new int[FLOW_FIRST.length];
            queue = new int[GREATEST_ROOM];
            begin(FLOW_FIRST[WEIGHT]);
        }

        /** Sets every field: after a restore, the place may hold what an undone flow left there. */
        void begin(int weight) {
            System.arraycopy(FLOW_FIRST, 0, settings, 0, settings.length);
            settings[WEIGHT] = weight;
            queued = 0;
            sent = 0;
            delivered = 0;
            late = 0;
            idleness = 0;
            greatestDelay = 0;
            sumOfDelays = 0;
            offered = 0;
            finish = 0;
            forgiven = 0;
            fluid = 0;
            service = 0;
            greatestLag = 0;
        }

        int head() {
            return queued == 0 ? NONE : queue[0];
        }

        void joinQueue(int packet) {
            if (queued < queue.length) {
                queue[queued] = packet;
                queued++;
            }
        }

        void leaveQueue(int packet) {
            int kept = 0;
            for (int i = 0; i < queued; i++) {
                if (queue[i] != packet) {
                    queue[kept] = queue[i];
                    kept++;
                }
            }
            queued = kept;
        }

        /** A length divided by the weight, in units of 1 / UNIT. */
        long share(int length) {
            int weight = settings[WEIGHT];
            return weight < 1 ? 0 : (long) length * UNIT / weight;
        }

        long lag() {
            return service - (long) UNIT * sent;
        }

        void noteDelivery(int delay, boolean isLate) {
            delivered++;
            sumOfDelays += delay;
            greatestDelay = Math.max(greatestDelay, delay);
            if (isLate) {
                late++;
            }
        }

        void makeIdleTick(long virtual) {
            idleness = queued == 0 ? idleness + 1 : 0;
            int patience = settings[PATIENCE];
            if (patience > 0 && settings[MERCY] != NOTHING && idleness >= patience) {
                idleness = 0;
                forgive(virtual);
            }
        }

        private void forgive(long virtual) {
            if (finish > virtual) {
                long kept = settings[MERCY] == ALL ? virtual : virtual + (finish - virtual) / 2;
                forgiven += finish - kept;
                finish = kept;
            }
        }

        /** The lag grows by fluid service alone, so its greatest value is noted here and nowhere else. */
        void loseFluid(int sumOfWeights) {
            long most = sumOfWeights < 1 ? 0 : (long) UNIT * settings[WEIGHT] / sumOfWeights;
            long loss = Math.min(fluid, most);
            fluid -= loss;
            service += loss;
            greatestLag = Math.max(greatestLag, lag());
        }

        void copyFrom(Flow other) {
            System.arraycopy(other.settings, 0, settings, 0, settings.length);
            System.arraycopy(other.queue, 0, queue, 0, queue.length);
            queued = other.queued;
            sent = other.sent;
            delivered = other.delivered;
            late = other.late;
            idleness = other.idleness;
            greatestDelay = other.greatestDelay;
            sumOfDelays = other.sumOfDelays;
            offered = other.offered;
            finish = other.finish;
            forgiven = other.forgiven;
            fluid = other.fluid;
            service = other.service;
            greatestLag = other.greatestLag;
        }
    }

    /** The text from which arrivals are read, and a place that moves over it while it is read. */
    private static final class Pad {
        final char[] text;
        int size;
        // The arrival that was read last.
        int flow;
        int length;
        int deadline;
        int count;
        private int at;

        Pad() {
            text = new char[LONGEST_PAD];
        }

        /** The caller has made sure that they fit. */
        void append(long characters, int appended) {
            for (int i = appended - 1; i >= 0; i--) {
                if (size < text.length) {
                    text[size] = (char) ((characters >>> (8 * i)) & 255);
                    size++;
                }
            }
        }

        int findFault() {
            at = 0;
            for (int i = 0; i < LONGEST_PAD && at < size; i++) {
                if (!readArrival()) {
                    return at;
                }
                if (at == size) {
                    return NONE;
                }
                if (text[at] != ',') {
                    return at;
                }
                at++;
            }
            return size;
        }

        void rewind() {
            at = 0;
        }

        /** Reads the next arrival of a text without a fault; false at its end. */
        boolean readNext() {
            if (at >= size) {
                return false;
            }
            boolean whole = readArrival();
            at++;
            return whole;
        }

        /** Returns whether there is a whole arrival; if not, the place that was reached is the fault. */
        private boolean readArrival() {
            flow = at < size ? text[at] - 'a' : NONE;
            if (flow < 0 || flow >= MOST_FLOWS) {
                return false;
            }
            at++;
            length = readNumber(GREATEST_LENGTH);
            if (length == 0) {
                return false;
            }
            deadline = readBehind('@', GREATEST_DEADLINE, 0);
            if (deadline == NONE) {
                return false;
            }
            count = readBehind('*', GREATEST_COUNT, 1);
            return count != NONE;
        }

        /** The number behind a mark: the given value if the mark is not there, NONE if no number follows it. */
        private int readBehind(char mark, int greatest, int without) {
            if (at >= size || text[at] != mark) {
                return without;
            }
            at++;
            int number = readNumber(greatest);
            return number == 0 ? NONE : number;
        }

        /** Stops before the first character that cannot belong to the number; 0 if there is no number. */
        private int readNumber(int greatest) {
            int number = 0;
            while (at < size) {
                int digit = text[at] - '0';
                boolean leadingZero = number == 0 && digit == 0;
                if (digit < 0 || digit > 9 || leadingZero || number * 10 + digit > greatest) {
                    return number;
                }
                number = number * 10 + digit;
                at++;
            }
            return number;
        }

        void copyFrom(Pad other) {
            System.arraycopy(other.text, 0, text, 0, text.length);
            size = other.size;
        }
    }

    /** Everything that is saved in a slot, and what happens in a tick. */
    private static final class State {
        final int[] settings;
        final Flow[] flows;
        final Packet[] packets;
        final Piece[] pieces;
        // Its packet is NONE while no piece is being sent.
        final Piece current;
        final Pad pad;
        int time;
        int flowCount;
        int packetCount;
        int pieceCount;
        int busyTicks;
        int headerTicks;
        // Packets that are SENT; most ticks have none, and then they need no search.
        int joiningPackets;
        // Of the last tick; NONE if it delivered nothing.
        int lowestDelivered;
        long virtual;

        State() {
            settings = new int[LINK_FIRST.length];
            System.arraycopy(LINK_FIRST, 0, settings, 0, settings.length);
            flows = new Flow[MOST_FLOWS];
            for (int i = 0; i < flows.length; i++) {
                flows[i] = new Flow();
            }
            packets = new Packet[KNOWN_PACKETS];
            for (int i = 0; i < packets.length; i++) {
                packets[i] = new Packet();
            }
            pieces = new Piece[KNOWN_PIECES];
            for (int i = 0; i < pieces.length; i++) {
                pieces[i] = new Piece();
            }
            current = new Piece();
            pad = new Pad();
            lowestDelivered = NONE;
        }

        // ---- what is known

        boolean hasFlow(int flow) {
            return flow >= 0 && flow < flowCount;
        }

        int oldestPacket() {
            return Math.max(0, packetCount - KNOWN_PACKETS);
        }

        boolean knowsPacket(int packet) {
            return packet >= oldestPacket() && packet < packetCount;
        }

        Packet packetAt(int packet) {
            return packets[Math.floorMod(packet, KNOWN_PACKETS)];
        }

        int oldestPiece() {
            return Math.max(0, pieceCount - KNOWN_PIECES);
        }

        boolean knowsPiece(int piece) {
            return piece >= oldestPiece() && piece < pieceCount;
        }

        Piece pieceAt(int piece) {
            return pieces[Math.floorMod(piece, KNOWN_PIECES)];
        }

        boolean areQueuesEmpty() {
            for (int i = 0; i < flowCount; i++) {
                if (flows[i].queued > 0) {
                    return false;
                }
            }
            return true;
        }

        int unsentLength(Flow flow) {
            int sum = 0;
            for (int i = 0; i < flow.queued; i++) {
                sum += packetAt(flow.queue[i]).unsent();
            }
            return sum;
        }

        long tagOrFinish(Flow flow) {
            if (flow.queued == 0) {
                return flow.finish;
            }
            Packet head = packetAt(flow.head());
            return head.start + flow.share(head.sent);
        }

        // ---- flows and packets come

        int openFlow(int weight) {
            flows[flowCount].begin(weight);
            flowCount++;
            return flowCount - 1;
        }

        boolean canAccept(int flow) {
            if (flows[flow].queued >= flows[flow].settings[ROOM]) {
                return false;
            }
            if (packetCount < KNOWN_PACKETS) {
                return true;
            }
            int forgotten = packetAt(oldestPacket()).condition;
            return forgotten == DELIVERED || forgotten == CANCELED;
        }

        /** Takes a packet for which canAccept has been asked; the deadline is 0 or ticks from now. */
        int accept(int flow, int length, int deadline) {
            int number = packetCount;
            Flow taker = flows[flow];
            long start = Math.max(virtual, taker.finish);
            packetAt(number).begin(flow, length, time, deadline == 0 ? NONE : time + deadline, start);
            taker.finish = start + taker.share(length);
            taker.fluid += (long) length * UNIT;
            taker.offered++;
            taker.joinQueue(number);
            packetCount++;
            return number;
        }

        // ---- ticks

        void makeTick() {
            moveTime();
            for (int i = 0; i < flowCount; i++) {
                flows[i].makeIdleTick(virtual);
            }
            drainFluid();
            beginPieceIfFree();
        }

        /** Idleness, debts and fluid do not decide when packets that wait are delivered: forecasts leave them out. */
        void makeDeliveryTick() {
            moveTime();
            beginPieceIfFree();
        }

        int ticksUntilDelivery(int packet, int most) {
            for (int tick = 1; tick <= most; tick++) {
                makeDeliveryTick();
                if (packetAt(packet).condition == DELIVERED) {
                    return tick;
                }
            }
            return NONE;
        }

        private void moveTime() {
            time++;
            lowestDelivered = NONE;
            if (current.packet != NONE) {
                busyTicks++;
                current.left--;
                if (current.left <= 0) {
                    finishPiece();
                }
            }
            if (joiningPackets > 0) {
                deliverJoined();
            }
        }

        private void finishPiece() {
            int number = current.packet;
            Packet packet = packetAt(number);
            Flow flow = flows[packet.flow];
            packet.sent += current.length;
            packet.pieces++;
            packet.promotedPieces += current.promoted ? 1 : 0;
            packet.lastSentAt = time;
            flow.sent += current.length;
            recordPiece();
            if (packet.unsent() > 0) {
                packet.condition = WAITING;
                return;
            }
            flow.leaveQueue(number);
            if (packet.pieces > 1 && settings[JOINING] > 0) {
                packet.condition = SENT;
                joiningPackets++;
            } else {
                deliver(number);
            }
        }

        private void recordPiece() {
            headerTicks += current.header;
            current.sentAt = time;
            pieceAt(pieceCount).copyFrom(current);
            pieceCount++;
            current.clear();
        }

        private void deliver(int number) {
            Packet packet = packetAt(number);
            packet.condition = DELIVERED;
            packet.deliveredAt = time;
            flows[packet.flow].noteDelivery(packet.delay(), packet.isLate());
            if (lowestDelivered == NONE || number < lowestDelivered) {
                lowestDelivered = number;
            }
        }

        private void deliverJoined() {
            for (int number = oldestPacket(); number < packetCount; number++) {
                Packet packet = packetAt(number);
                if (packet.condition == SENT && time - packet.lastSentAt >= settings[JOINING]) {
                    joiningPackets--;
                    deliver(number);
                }
            }
        }

        private void drainFluid() {
            int sumOfWeights = 0;
            for (int i = 0; i < flowCount; i++) {
                if (flows[i].fluid > 0) {
                    sumOfWeights += flows[i].settings[WEIGHT];
                }
            }
            if (sumOfWeights == 0) {
                return;
            }
            for (int i = 0; i < flowCount; i++) {
                if (flows[i].fluid > 0) {
                    flows[i].loseFluid(sumOfWeights);
                }
            }
        }

        // ---- the next piece

        private void beginPieceIfFree() {
            if (current.packet != NONE) {
                return;
            }
            int urgent = urgentFlow();
            int next = urgent == NONE ? leastTagFlow() : urgent;
            if (next == NONE) {
                return;
            }
            if (urgent == NONE) {
                virtual = Math.max(virtual, tagOrFinish(flows[next]));
            }
            beginPiece(next, urgent != NONE);
        }

        private void beginPiece(int flow, boolean promoted) {
            Packet packet = packetAt(flows[flow].head());
            int split = flows[flow].settings[SPLIT];
            packet.condition = SENDING;
            current.packet = flows[flow].head();
            current.flow = flow;
            current.length = split == 0 ? packet.unsent() : Math.min(split, packet.unsent());
            current.header = settings[HEADER];
            current.left = current.header + current.length;
            current.promoted = promoted;
        }

        /** The flow whose head would be the next one; NONE if all queues are empty. */
        int nextFlow() {
            int urgent = urgentFlow();
            return urgent == NONE ? leastTagFlow() : urgent;
        }

        private int urgentFlow() {
            int found = NONE;
            int earliest = 0;
            for (int i = 0; i < flowCount; i++) {
                if (flows[i].queued > 0) {
                    Packet head = packetAt(flows[i].head());
                    if (isUrgent(head) && (found == NONE || head.deadline < earliest)) {
                        found = i;
                        earliest = head.deadline;
                    }
                }
            }
            return found;
        }

        private int leastTagFlow() {
            int found = NONE;
            long least = 0;
            for (int i = 0; i < flowCount; i++) {
                if (flows[i].queued > 0) {
                    long tag = tagOrFinish(flows[i]);
                    if (found == NONE || tag < least) {
                        found = i;
                        least = tag;
                    }
                }
            }
            return found;
        }

        boolean isUrgent(Packet packet) {
            if (settings[PROMOTION] == 0 || packet.deadline == NONE) {
                return false;
            }
            return time + ticksOfRest(packet) + settings[MARGIN] >= packet.deadline;
        }

        private int ticksOfRest(Packet packet) {
            int rest = packet.unsent();
            int split = flows[packet.flow].settings[SPLIT];
            if (split < 1 || rest <= split) {
                return settings[HEADER] + rest;
            }
            return rest + settings[HEADER] * ((rest + split - 1) / split);
        }

        // ---- copies

        /** Copies what is known; what is not known is never read. */
        void copyFrom(State other) {
            System.arraycopy(other.settings, 0, settings, 0, settings.length);
            for (int i = 0; i < other.flowCount; i++) {
                flows[i].copyFrom(other.flows[i]);
            }
            for (int number = other.oldestPacket(); number < other.packetCount; number++) {
                packetAt(number).copyFrom(other.packetAt(number));
            }
            for (int piece = other.oldestPiece(); piece < other.pieceCount; piece++) {
                pieceAt(piece).copyFrom(other.pieceAt(piece));
            }
            current.copyFrom(other.current);
            pad.copyFrom(other.pad);
            time = other.time;
            flowCount = other.flowCount;
            packetCount = other.packetCount;
            pieceCount = other.pieceCount;
            busyTicks = other.busyTicks;
            headerTicks = other.headerTicks;
            joiningPackets = other.joiningPackets;
            lowestDelivered = other.lowestDelivered;
            virtual = other.virtual;
        }
    }
}
