/** Boundary cases that the promises 5 to 8 name: offer, cancel, packet, start. */
public final class EdgesOfPacketsTest {
    private static final String FORGOTTEN = "or if the packet that would not be known any more then is WAITING, SENDING or SENT";

    public static void main(String[] args) {
        offerRanges();
        offerRoom();
        offerForgets();
        offerGoesRound();
        cancel();
        cancelErrors();
        packet();
        packetErrors();
        start();
        Script.end();
    }

    private static void offerRanges() {
        Edge.run("5", "`length`: 1 to 2000",
            "addFlow(1) = 0; offer(0, 0, 0) = BAD_VALUE; offer(0, -1, 0) = BAD_VALUE; offer(0, 1, 0) = 0; offer(0, 2, 0) = 1; offer(0, 1999, 0) = 2; offer(0, 2000, 0) = 3; offer(0, 2001, 0) = BAD_VALUE",
            "offer(0, LEAST_INT, 0) = BAD_VALUE; offer(0, GREATEST_INT, 0) = BAD_VALUE; packet(0, 1) = 1; packet(3, 1) = 2000; link(6) = 4");
        Edge.run("5", "`deadline`: 0 for none, otherwise 1 to 9999 ticks from now",
            "addFlow(1) = 0; offer(0, 1, 0) = 0; offer(0, 1, 1) = 1; offer(0, 1, 9999) = 2; offer(0, 1, 10000) = BAD_VALUE; offer(0, 1, -1) = BAD_VALUE; offer(0, 1, LEAST_INT) = BAD_VALUE",
            "offer(0, 1, GREATEST_INT) = BAD_VALUE; packet(0, 3) = NONE; packet(1, 3) = 1; packet(2, 3) = 9999; link(6) = 3; advance(2000) = 2000; offer(0, 1, 0) = 3; offer(0, 1, 1) = 4",
            "offer(0, 1, 9999) = 5; packet(3, 3) = NONE; packet(4, 3) = 2001; packet(5, 3) = 11999");
        Edge.run("5", "NO_SUCH if there is no such flow",
            "offer(0, 1, 0) = NO_SUCH; addFlow(1) = 0; offer(-1, 1, 0) = NO_SUCH; offer(1, 1, 0) = NO_SUCH; offer(LEAST_INT, 1, 0) = NO_SUCH; offer(GREATEST_INT, 1, 0) = NO_SUCH",
            "offer(0, 1, 0) = 0; addFlow(1) = 1; addFlow(1) = 2; addFlow(1) = 3; addFlow(1) = 4; addFlow(1) = 5; offer(5, 1, 0) = 1; offer(6, 1, 0) = NO_SUCH");
        Edge.run("5", "NO_SUCH if there is no such flow; BAD_VALUE if length or deadline is out of range; TOO_MANY if the queue of the flow has as many packets as its ROOM, or more",
            "addFlow(1) = 0; set(0, ROOM, 1) = 20; offer(0, 1, 0) = 0; offer(1, 0, 0) = NO_SUCH; offer(1, 1, 10000) = NO_SUCH; offer(-1, 2001, -1) = NO_SUCH; offer(0, 0, 0) = BAD_VALUE",
            "offer(0, 2001, 0) = BAD_VALUE; offer(0, 1, -1) = BAD_VALUE; offer(0, 1, 10000) = BAD_VALUE; offer(0, 0, 10000) = BAD_VALUE; offer(0, 1, 0) = TOO_MANY; offer(0, 2000, 9999) = TOO_MANY");
    }

    private static void offerRoom() {
        String sentence = "TOO_MANY if the queue of the flow has as many packets as its ROOM, or more";
        for (int room = 1; room <= 20; room++) {
            Script script = Edge.of("5", sentence).calls("addFlow(1) = 0; addFlow(1) = 1; set(0, ROOM, " + room + ") = 20");
            for (int number = 0; number < room; number++) {
                script.calls("offer(0, 1, 0) = " + number);
            }
            script.calls("offer(0, 1, 0) = TOO_MANY; flow(0, 5) = " + room + "; flow(0, 14) = " + room + "; offer(1, 1, 0) = " + room);
        }
        Edge.run("5", sentence,
            "addFlow(1) = 0; offer(0, 1, 0) = 0; offer(0, 1, 0) = 1; offer(0, 1, 0) = 2; set(0, ROOM, 2) = 20; offer(0, 1, 0) = TOO_MANY; cancel(0) = 2; offer(0, 1, 0) = TOO_MANY; cancel(1) = 1",
            "offer(0, 1, 0) = 3; offer(0, 1, 0) = TOO_MANY; set(0, ROOM, 1) = 2; offer(0, 1, 0) = TOO_MANY; flow(0, 5) = 2");
        Edge.run("5", sentence,
            "addFlow(1) = 0; rule(HEADER, 0) = 2; set(0, ROOM, 1) = 20; offer(0, 1, 0) = 0; advance(1) = 1; packet(0, 4) = SENDING; offer(0, 1, 0) = TOO_MANY; advance(1) = 2; offer(0, 1, 0) = 1");
    }

    /** Offers packets that are canceled at once, so that the flow 1 has an empty queue again. */
    static void fill(Script script, int first, int last) {
        for (int number = first; number <= last; number++) {
            script.calls("offer(1, 1, 0) = " + number + "; cancel(" + number + ") = 0");
        }
    }

    private static void offerForgets() {
        Script waiting = Edge.of("5", FORGOTTEN).calls("addFlow(1) = 0; addFlow(1) = 1; offer(0, 7, 0) = 0");
        fill(waiting, 1, 119);
        waiting.calls("link(16) = 0; packet(0, 4) = WAITING; offer(1, 1, 0) = TOO_MANY; offer(0, 1, 0) = TOO_MANY; offer(1, 0, 0) = BAD_VALUE; offer(2, 1, 0) = NO_SUCH; link(6) = 120")
            .calls("packet(0, 1) = 7; flow(0, 6) = 0; flow(1, 5) = 0; flow(1, 14) = 119; amount(1, 0) = 119*UNIT; amount(1, 4) = 119*UNIT; cancel(0) = 0; offer(1, 1, 0) = 120; packet(0, 1) = NO_SUCH");
        Script sending = Edge.of("5", FORGOTTEN).calls("addFlow(1) = 0; addFlow(1) = 1; rule(HEADER, 0) = 2; offer(0, 2, 0) = 0");
        fill(sending, 1, 119);
        sending.calls("advance(2) = 2; packet(0, 4) = SENDING; link(9) = 1; offer(1, 1, 0) = TOO_MANY; link(6) = 120; advance(1) = 3; packet(0, 4) = DELIVERED; offer(1, 1, 0) = 120")
            .calls("packet(0, 4) = NO_SUCH; link(16) = 1");
        Script between = Edge.of("5", FORGOTTEN).calls("addFlow(1) = 0; addFlow(1) = 1; rule(HEADER, 0) = 2; set(0, SPLIT, 1) = 0; offer(0, 2, 0) = 0; offer(1, 1, 0) = 1");
        for (int number = 2; number < 120; number++) {
            between.calls("offer(1, 1, 0) = " + number + "; cancel(" + number + ") = 1");
        }
        between.calls("advance(2) = 2; packet(0, 4) = WAITING; packet(0, 5) = 1; offer(1, 1, 0) = TOO_MANY; link(16) = 0");
        Script sent = Edge.of("5", FORGOTTEN).calls("addFlow(1) = 0; addFlow(1) = 1; rule(HEADER, 0) = 2; rule(JOINING, 50) = 1; set(0, SPLIT, 1) = 0; offer(0, 2, 0) = 0");
        fill(sent, 1, 119);
        sent.calls("advance(3) = 3; packet(0, 4) = SENT; offer(1, 1, 0) = TOO_MANY; advance(49) = 52; packet(0, 4) = SENT; offer(1, 1, 0) = TOO_MANY; advance(1) = 53; packet(0, 4) = DELIVERED")
            .calls("offer(1, 1, 0) = 120; packet(0, 4) = NO_SUCH");
    }

    private static void offerGoesRound() {
        // Only the packet that would be forgotten matters, also if it is not the first one of all.
        Script second = Edge.of("5", FORGOTTEN).calls("addFlow(1) = 0; addFlow(1) = 1; offer(1, 1, 0) = 0; cancel(0) = 0; offer(0, 9, 0) = 1");
        fill(second, 2, 120);
        second.calls("link(16) = 1; packet(0, 4) = NO_SUCH; packet(1, 4) = WAITING; offer(1, 1, 0) = TOO_MANY; offer(0, 1, 0) = TOO_MANY; cancel(1) = 0; offer(0, 3, 0) = 121; packet(1, 4) = NO_SUCH")
            .calls("packet(121, 1) = 3; offer(0, 4, 0) = 122; link(16) = 3; flow(0, 6) = 121; flow(0, 5) = 2");
        Script newest = Edge.of("5", FORGOTTEN).calls("addFlow(1) = 0; addFlow(1) = 1");
        fill(newest, 0, 118);
        newest.calls("offer(0, 9, 0) = 119; link(16) = 0; offer(0, 9, 0) = 120; link(16) = 1; packet(119, 4) = WAITING; packet(120, 4) = WAITING; flow(0, 5) = 2; flow(0, 6) = 119; packet(0, 4) = NO_SUCH")
            .calls("packet(1, 4) = CANCELED");
        // Whole rounds: a hundred packets a time, all of them delivered before the next hundred comes.
        Script rounds = Edge.of("5", "Returns the number of the packet").calls("addFlow(1) = 0; addFlow(1) = 1; addFlow(1) = 2; addFlow(1) = 3; addFlow(1) = 4; rule(HEADER, 0) = 2");
        for (int round = 1; round <= 8; round++) {
            rounds.calls("put(\"a1*9,a1*\") = 8; put(\"9,a1*2,b\") = 16; put(\"1*9,b1*9\") = 24; put(\",b1*2,c1\") = 32; put(\"*9,c1*9,\") = 40; put(\"c1*2,d1*\") = 48; put(\"9,d1*9,d\") = 56")
                .calls("put(\"1*2,e1*9\") = 64; put(\",e1*9,e1\") = 72; put(\"*2\") = 74; load() = 100; link(6) = " + 100 * round + "; link(16) = " + Math.max(0, 100 * round - 120))
                .calls("offer(0, 1, 0) = TOO_MANY; flow(0, 6) = " + (100 * round - 100) + "; flow(4, 6) = " + (100 * round - 20) + "; advance(101) = " + 101 * round)
                .calls("flow(0, 9) = " + 20 * round + "; packet(" + (100 * round - 1) + ", 4) = DELIVERED; packet(" + (100 * round - 1) + ", 8) = " + 101 * round)
                .calls("packet(" + 100 * round + ", 4) = NO_SUCH; packet(" + (100 * round - 121) + ", 4) = NO_SUCH; flow(4, 14) = " + 20 * round);
        }
    }

    private static void cancel() {
        Edge.run("6", "Cancels a packet of which nothing was sent and of which no piece is being sent.",
            "addFlow(1) = 0; addFlow(1) = 1; rule(HEADER, 0) = 2; set(0, SPLIT, 1) = 0; offer(0, 2, 0) = 0; offer(1, 2, 0) = 1; advance(1) = 1; packet(0, 4) = SENDING; packet(0, 5) = 0",
            "cancel(0) = NOT_POSSIBLE; packet(1, 4) = WAITING; cancel(1) = 0; packet(1, 4) = CANCELED; advance(1) = 2; packet(0, 5) = 1; cancel(0) = NOT_POSSIBLE");
        Edge.run("6", "It leaves the queue.",
            "addFlow(1) = 0; offer(0, 1, 0) = 0; offer(0, 2, 0) = 1; offer(0, 3, 0) = 2; cancel(2) = 2; flow(0, 6) = 0; flow(0, 7) = 3; cancel(0) = 1; flow(0, 6) = 1; flow(0, 7) = 2; cancel(1) = 0",
            "flow(0, 5) = 0; flow(0, 6) = NONE; flow(0, 7) = 0; link(14) = NONE; awaitDelivery(100) = NONE; link(15) = 0; flow(0, 9) = 0");
        Edge.run("6", "(The start of other packets, the finish of the flow and its fluid stay.)",
            "addFlow(2) = 0; offer(0, 4, 0) = 0; offer(0, 6, 0) = 1; cancel(0) = 1; start(0) = 0; start(1) = 2*UNIT; amount(0, 0) = 5*UNIT; amount(0, 1) = 2*UNIT; amount(0, 4) = 10*UNIT; cancel(1) = 0",
            "start(1) = 2*UNIT; amount(0, 0) = 5*UNIT; amount(0, 1) = 5*UNIT; amount(0, 4) = 10*UNIT; flow(0, 14) = 2; offer(0, 2, 0) = 2; start(2) = 5*UNIT; amount(0, 0) = 6*UNIT");
        Script full = Edge.of("6", "Returns the number of packets in the queue of its flow then").calls("addFlow(1) = 0; addFlow(1) = 1; offer(1, 1, 0) = 0");
        for (int number = 1; number <= 20; number++) {
            full.calls("offer(0, 1, 0) = " + number);
        }
        for (int number = 20; number >= 1; number--) {
            full.calls("cancel(" + number + ") = " + (number - 1));
        }
        full.calls("flow(0, 6) = NONE; flow(1, 5) = 1; offer(0, 1, 0) = 21; flow(0, 6) = 21");
    }

    private static void cancelErrors() {
        Script known = Edge.of("6", "NO_SUCH if there is no such packet, or it is not known any more")
            .calls("cancel(0) = NO_SUCH; addFlow(1) = 0; addFlow(1) = 1; offer(0, 1, 0) = 0; cancel(-1) = NO_SUCH; cancel(1) = NO_SUCH; cancel(LEAST_INT) = NO_SUCH; cancel(GREATEST_INT) = NO_SUCH")
            .calls("cancel(0) = 0; offer(0, 1, 0) = 1; cancel(1) = 0");
        fill(known, 2, 119);
        known.calls("cancel(0) = NOT_POSSIBLE; offer(1, 1, 0) = 120; cancel(0) = NO_SUCH; cancel(1) = NOT_POSSIBLE; offer(1, 1, 0) = 121; cancel(1) = NO_SUCH; cancel(122) = NO_SUCH; cancel(121) = 1");
        Edge.run("6", "NOT_POSSIBLE if it is not WAITING, or something of it was sent",
            "addFlow(1) = 0; addFlow(1) = 1; rule(HEADER, 0) = 2; rule(JOINING, 9) = 1; set(0, SPLIT, 1) = 0; offer(0, 2, 0) = 0; offer(1, 1, 0) = 1; offer(1, 1, 0) = 2; cancel(2) = 1",
            "cancel(2) = NOT_POSSIBLE; advance(1) = 1; packet(0, 4) = SENDING; cancel(0) = NOT_POSSIBLE; advance(1) = 2; packet(0, 4) = WAITING; packet(0, 5) = 1; cancel(0) = NOT_POSSIBLE",
            "cancel(1) = NOT_POSSIBLE; advance(1) = 3; packet(1, 4) = DELIVERED; cancel(1) = NOT_POSSIBLE; advance(1) = 4; packet(0, 4) = SENT; cancel(0) = NOT_POSSIBLE; advance(9) = 13",
            "packet(0, 4) = DELIVERED; cancel(0) = NOT_POSSIBLE; packet(2, 4) = CANCELED; flow(0, 9) = 1; flow(1, 9) = 1");
    }

    private static void packet() {
        Edge.run("7", "3 its deadline, NONE if it has none", "addFlow(1) = 0; offer(0, 1, 0) = 0; offer(0, 1, 1) = 1; packet(0, 3) = NONE; packet(1, 3) = 1; cancel(0) = 1; packet(0, 3) = NONE");
        Edge.run("7", "(one that is being sent does not count for 6 and 7)",
            "addFlow(1) = 0; rule(HEADER, 0) = 2; set(0, SPLIT, 1) = 0; offer(0, 2, 1) = 0; packet(0, 5) = 0; packet(0, 6) = 0; packet(0, 7) = 0; advance(1) = 1; link(10) = 1; packet(0, 5) = 0; packet(0, 6) = 0",
            "packet(0, 7) = 0; advance(1) = 2; packet(0, 5) = 1; packet(0, 6) = 1; packet(0, 7) = 1; rule(PROMOTION, 0) = 1; packet(0, 7) = 1; advance(1) = 3; packet(0, 6) = 2; packet(0, 7) = 2");
        Edge.run("7", "7 how many of them were promoted",
            "addFlow(1) = 0; rule(HEADER, 0) = 2; set(0, SPLIT, 1) = 0; offer(0, 3, 1) = 0; rule(PROMOTION, 0) = 1; advance(1) = 1; rule(PROMOTION, 1) = 0; advance(1) = 2; packet(0, 6) = 1; packet(0, 7) = 0",
            "rule(PROMOTION, 0) = 1; advance(1) = 3; packet(0, 6) = 2; packet(0, 7) = 1; advance(1) = 4; packet(0, 6) = 3; packet(0, 7) = 1");
        Edge.run("7", "8 the time at which it was DELIVERED, NONE if it is not",
            "addFlow(1) = 0; rule(HEADER, 0) = 2; set(0, SPLIT, 1) = 0; offer(0, 2, 0) = 0; offer(0, 2, 0) = 1; cancel(1) = 1; packet(0, 8) = NONE; advance(1) = 1; packet(0, 8) = NONE; advance(2) = 3",
            "packet(0, 4) = SENT; packet(0, 8) = NONE; advance(1) = 4; packet(0, 8) = 4; packet(1, 8) = NONE; advance(9) = 13; packet(0, 8) = 4");
        Edge.run("7", "9 whether it is urgent now (1 or 0; 0 if it is not in a queue)",
            "addFlow(1) = 0; rule(HEADER, 0) = 2; rule(JOINING, 9) = 1; set(0, SPLIT, 1) = 0; offer(0, 2, 1) = 0; offer(0, 2, 1) = 1; packet(0, 9) = 1; packet(1, 9) = 1; cancel(1) = 1; packet(1, 9) = 0",
            "advance(1) = 1; packet(0, 4) = SENDING; packet(0, 9) = 1; advance(2) = 3; packet(0, 4) = SENT; packet(0, 9) = 0; advance(9) = 12; packet(0, 4) = DELIVERED; packet(0, 9) = 0");
    }

    private static void packetErrors() {
        Edge.run("7", "BAD_VALUE if what is out of range",
            "addFlow(1) = 0; offer(0, 6, 0) = 0; packet(0, -1) = BAD_VALUE; packet(0, 0) = 0; packet(0, 9) = 0; packet(0, 10) = BAD_VALUE; packet(0, LEAST_INT) = BAD_VALUE; packet(0, GREATEST_INT) = BAD_VALUE");
        Script known = Edge.of("7", "NO_SUCH if there is no such packet, or it is not known any more; BAD_VALUE if what is out of range")
            .calls("packet(0, 0) = NO_SUCH; packet(0, 10) = NO_SUCH; addFlow(1) = 0; addFlow(1) = 1; packet(-1, 0) = NO_SUCH; packet(LEAST_INT, 0) = NO_SUCH; packet(GREATEST_INT, 0) = NO_SUCH");
        fill(known, 0, 119);
        known.calls("packet(0, 0) = 1; packet(0, 10) = BAD_VALUE; packet(119, 0) = 1; packet(120, 0) = NO_SUCH; packet(120, -1) = NO_SUCH; offer(1, 1, 0) = 120; packet(0, 0) = NO_SUCH; packet(0, 10) = NO_SUCH")
            .calls("packet(1, 0) = 1; packet(1, 10) = BAD_VALUE; packet(120, 0) = 1; packet(121, 10) = NO_SUCH");
    }

    private static void start() {
        Script known = Edge.of("8", "GONE + NO_SUCH if there is no such packet, or it is not known any more")
            .calls("start(0) = GONE+NO_SUCH; start(-1) = GONE+NO_SUCH; addFlow(1) = 0; addFlow(1) = 1; start(LEAST_INT) = GONE+NO_SUCH; start(GREATEST_INT) = GONE+NO_SUCH");
        fill(known, 0, 119);
        known.calls("start(0) = 0; start(1) = UNIT; start(119) = 119*UNIT; start(120) = GONE+NO_SUCH; offer(1, 1, 0) = 120; start(0) = GONE+NO_SUCH; start(1) = UNIT; start(120) = 120*UNIT")
            .calls("start(121) = GONE+NO_SUCH");
        Edge.run("8", "Returns the start of a packet.",
            "addFlow(16) = 0; addFlow(1) = 1; rule(HEADER, 0) = 2; set(0, SPLIT, 1) = 0; offer(0, 2, 0) = 0; offer(0, 2, 0) = 1; offer(0, 2, 0) = 2; start(0) = 0; start(1) = 90090; start(2) = 180180",
            "cancel(2) = 2; start(2) = 180180; advance(1) = 1; start(0) = 0; advance(2) = 3; packet(0, 4) = SENT; start(0) = 0; advance(1) = 4; packet(0, 4) = DELIVERED; start(0) = 0; start(1) = 90090");
    }
}
