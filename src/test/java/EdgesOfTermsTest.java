/** Boundary cases that the section "Terms" names: the conventions, the settings, packets and virtual times. */
public final class EdgesOfTermsTest {
    private static final String TERMS = "Terms";

    public static void main(String[] args) {
        conventions();
        shareUnit();
        flows();
        room();
        split();
        patience();
        mercy();
        header();
        joining();
        margin();
        promotion();
        packets();
        starts();
        tagsAndDebts();
        Script.end();
    }

    private static void conventions() {
        Edge.run(TERMS, "error codes NO_SUCH (-1), BAD_VALUE (-2), BAD_TEXT (-3), TOO_MANY (-4) and NOT_POSSIBLE (-5)",
            "flow(0, 0) = -1; addFlow(0) = -2; load() = -3; restore(0) = -5; addFlow(1) = 0; set(0, ROOM, 1) = 20; offer(0, 1, 0) = 0; offer(0, 1, 0) = -4");
        Edge.run(TERMS, "Methods that return a long return GONE plus the error code instead.",
            "start(0) = -1000000000000000001; amount(0, 0) = -1000000000000000001; apart(0, 0) = -1000000000000000001; addFlow(1) = 0",
            "amount(0, 8) = -1000000000000000002; amount(0, -1) = -1000000000000000002; amount(1, 8) = -1000000000000000001; start(0) = GONE+NO_SUCH",
            "apart(0, 1) = GONE+NO_SUCH; virtualTime() = 0");
        Edge.run(TERMS, "NONE (-6) is not an error; it is returned only if no error applies.",
            "link(7) = -6; link(14) = -6; link(16) = -6; piece(0, 4) = -6; piece(0, 5) = BAD_VALUE; piece(-1, -1) = BAD_VALUE; awaitDelivery(1) = -6",
            "awaitDelivery(0) = BAD_VALUE; addFlow(1) = 0; flow(0, 6) = -6; offer(0, 9, 0) = 0; packet(0, 3) = -6; packet(0, 8) = -6; forecast(0, 1) = -6",
            "forecast(0, 0) = BAD_VALUE; forecast(1, 1) = NO_SUCH; leastWeight(0, 1) = -6; leastWeight(0, 0) = BAD_VALUE; leastWeight(1, 1) = NO_SUCH",
            "cancel(0) = 0; leastWeight(0, 1) = NOT_POSSIBLE; forecast(0, 2000) = -6; forecast(0, 2001) = BAD_VALUE; put(\"a1\") = 2; fault() = -6");
        Edge.run(TERMS, "Everything is numbered from 0.",
            "addFlow(1) = 0; addFlow(1) = 1; offer(1, 1, 0) = 0; offer(0, 1, 0) = 1; advance(7) = 7; piece(0, 0) = 1; piece(1, 0) = 0; save(0) = 7; restore(0) = 7",
            "put(\"x\") = 1; fault() = 0; flow(-1, 0) = NO_SUCH; packet(-1, 0) = NO_SUCH; piece(-1, 0) = NONE; save(-1) = BAD_VALUE");
        Edge.run(TERMS, "Divisions are rounded toward 0.",
            "addFlow(1) = 0; addFlow(16) = 1; rule(HEADER, 0) = 2; set(1, PATIENCE, 1) = 0; set(1, MERCY, HALF) = 2; offer(1, 1, 0) = 0; offer(0, 9, 0) = 1",
            "advance(1) = 1; amount(0, 5) = 42395; amount(1, 5) = 678324; link(7) = 1; advance(9) = 10; link(7) = 0; amount(1, 0) = 45045; advance(1) = 11",
            "amount(1, 0) = 22522; amount(1, 3) = 22523");
    }

    private static void shareUnit() {
        for (int weight = 1; weight <= 16; weight++) {
            Script script = Edge.of(TERMS, "UNIT = 720720, which all weights from 1 to 16 divide without a rest").calls("addFlow(" + weight + ") = 0");
            for (int number = 0; number < weight; number++) {
                script.calls("offer(0, 1, 0) = " + number + "; start(" + number + ") = " + 720720 / weight * number);
            }
            script.calls("amount(0, 0) = UNIT; amount(0, 0) = 720720");
        }
    }

    private static void flows() {
        Edge.run(TERMS, "Up to 6 flows can be added.",
            "flow(0, 0) = NO_SUCH; addFlow(1) = 0; flow(0, 0) = 1; flow(1, 0) = NO_SUCH; addFlow(2) = 1; addFlow(3) = 2; addFlow(4) = 3; addFlow(5) = 4",
            "flow(5, 0) = NO_SUCH; link(5) = 5; addFlow(6) = 5; flow(5, 0) = 6; flow(6, 0) = NO_SUCH; link(5) = 6; addFlow(7) = TOO_MANY; link(5) = 6",
            "flow(6, 0) = NO_SUCH; flow(0, 0) = 1; flow(5, 0) = 6; offer(5, 1, 0) = 0; offer(6, 1, 0) = NO_SUCH");
        Edge.run(TERMS, "WEIGHT (1 to 16; 1).",
            "addFlow(1) = 0; flow(0, 0) = 1; set(0, WEIGHT, 0) = BAD_VALUE; set(0, WEIGHT, -1) = BAD_VALUE; set(0, WEIGHT, 1) = 1; set(0, WEIGHT, 17) = BAD_VALUE",
            "set(0, WEIGHT, 16) = 1; set(0, WEIGHT, 17) = BAD_VALUE; flow(0, 0) = 16; offer(0, 1, 0) = 0; amount(0, 0) = 45045; set(0, WEIGHT, 1) = 16",
            "offer(0, 1, 0) = 1; amount(0, 0) = 45045+UNIT");
    }

    private static void room() {
        Script script = Edge.of(TERMS, "ROOM (1 to 20; 20): how many packets can wait.")
            .calls("addFlow(1) = 0; flow(0, 1) = 20; set(0, ROOM, 0) = BAD_VALUE; set(0, ROOM, 21) = BAD_VALUE; set(0, ROOM, 1) = 20")
            .calls("offer(0, 1, 0) = 0; offer(0, 1, 0) = TOO_MANY; set(0, ROOM, 2) = 1; offer(0, 1, 0) = 1; offer(0, 1, 0) = TOO_MANY; set(0, ROOM, 20) = 2");
        for (int number = 2; number < 20; number++) {
            script.calls("offer(0, 1, 0) = " + number + "; flow(0, 5) = " + (number + 1));
        }
        script.calls("offer(0, 1, 0) = TOO_MANY; flow(0, 5) = 20; link(6) = 20; cancel(19) = 19; offer(0, 1, 0) = 20; offer(0, 1, 0) = TOO_MANY");
    }

    private static void split() {
        Edge.run(TERMS, "SPLIT (0 to 1000; 0): the length of a piece; 0 means that packets are not split.",
            "addFlow(1) = 0; flow(0, 2) = 0; set(0, SPLIT, -1) = BAD_VALUE; set(0, SPLIT, 1001) = BAD_VALUE; rule(HEADER, 0) = 2; offer(0, 2000, 0) = 0",
            "offer(0, 2000, 0) = 1; offer(0, 1000, 0) = 2; offer(0, 2, 0) = 3; advance(1) = 1; link(8) = 2000; set(0, SPLIT, 1000) = 0; link(8) = 2000",
            "advance(2000) = 2001; packet(0, 4) = DELIVERED; packet(0, 6) = 1; link(7) = 1; link(8) = 1000; advance(1000) = 3001; link(7) = 1; link(8) = 1000",
            "packet(1, 5) = 1000; advance(1000) = 4001; packet(1, 4) = SENT; packet(1, 6) = 2; link(7) = 2; link(8) = 1000; set(0, SPLIT, 1) = 1000",
            "advance(1000) = 5001; packet(2, 4) = DELIVERED; packet(2, 6) = 1; link(7) = 3; link(8) = 1; advance(1) = 5002; packet(3, 5) = 1; link(8) = 1",
            "advance(1) = 5003; packet(3, 4) = SENT; packet(3, 6) = 2; link(7) = NONE");
    }

    private static void patience() {
        Edge.run(TERMS, "PATIENCE (0 to 1000; 0): ticks of idleness before a debt is forgiven; 0 means never.",
            "addFlow(1) = 0; addFlow(1) = 1; addFlow(1) = 2; flow(0, 3) = 0; set(0, PATIENCE, -1) = BAD_VALUE; set(0, PATIENCE, 1001) = BAD_VALUE",
            "set(0, PATIENCE, 0) = 0; set(1, PATIENCE, 1) = 0; set(2, PATIENCE, 1000) = 0; rule(HEADER, 0) = 2; offer(0, 1, 0) = 0; offer(1, 1, 0) = 1",
            "offer(2, 1, 0) = 2; advance(2) = 2; amount(1, 0) = UNIT; advance(1) = 3; amount(1, 0) = 0; amount(1, 3) = UNIT; flow(1, 11) = 0; advance(999) = 1002",
            "flow(2, 11) = 999; amount(2, 2) = UNIT; amount(2, 3) = 0; advance(1) = 1003; flow(2, 11) = 0; amount(2, 2) = 0; amount(2, 3) = UNIT; advance(2000) = 3003",
            "amount(0, 2) = UNIT; amount(0, 3) = 0; flow(0, 11) = 3002");
    }

    private static void mercy() {
        Edge.run(TERMS, "MERCY (0 to 2; 2): NOTHING (0), HALF (1) or ALL (2) of a debt is forgiven.",
            "addFlow(1) = 0; addFlow(1) = 1; addFlow(1) = 2; flow(0, 4) = 2; set(0, MERCY, -1) = BAD_VALUE; set(0, MERCY, 3) = BAD_VALUE; set(0, MERCY, 0) = 2",
            "set(1, MERCY, 1) = 2; set(2, MERCY, 2) = 2; set(0, PATIENCE, 1) = 0; set(1, PATIENCE, 1) = 0; set(2, PATIENCE, 1) = 0; rule(HEADER, 0) = 2",
            "offer(0, 1, 0) = 0; offer(1, 1, 0) = 1; offer(2, 1, 0) = 2; advance(3) = 3; amount(1, 2) = 360360; amount(1, 3) = 360360; advance(1) = 4",
            "amount(1, 2) = 180180; amount(1, 3) = 540540; amount(2, 2) = 0; amount(2, 3) = UNIT; amount(0, 2) = UNIT; amount(0, 3) = 0; flow(0, 11) = 3",
            "flow(1, 11) = 0; flow(2, 11) = 0");
    }

    private static void header() {
        Edge.run(TERMS, "HEADER (0 to 50; 2): ticks that each piece takes besides its length.",
            "link(1) = 2; rule(HEADER, -1) = BAD_VALUE; rule(HEADER, 51) = BAD_VALUE; addFlow(1) = 0; set(0, SPLIT, 1) = 0; offer(0, 2, 0) = 0; offer(0, 1, 0) = 1",
            "rule(HEADER, 50) = 2; advance(1) = 1; link(9) = 51; advance(50) = 51; link(9) = 1; link(15) = 0; link(13) = 0; advance(1) = 52; link(15) = 1; link(13) = 50",
            "link(7) = 0; link(9) = 51; rule(HEADER, 0) = 50; advance(51) = 103; link(15) = 2; link(13) = 100; link(7) = 1; link(9) = 1; advance(1) = 104; link(15) = 3",
            "link(13) = 100; packet(1, 8) = 104; rule(HEADER, 2) = 0; offer(0, 1, 0) = 2; advance(1) = 105; link(9) = 3");
    }

    private static void joining() {
        Edge.run(TERMS, "JOINING (0 to 50; 1): ticks after the last piece of a packet that was sent in several pieces, until it is delivered.",
            "link(2) = 1; rule(JOINING, -1) = BAD_VALUE; rule(JOINING, 51) = BAD_VALUE; addFlow(1) = 0; set(0, SPLIT, 1) = 0; rule(HEADER, 0) = 2; offer(0, 2, 0) = 0",
            "advance(3) = 3; packet(0, 4) = SENT; advance(1) = 4; packet(0, 4) = DELIVERED; rule(JOINING, 50) = 1; offer(0, 2, 0) = 1; offer(0, 1, 0) = 2; advance(3) = 7",
            "packet(1, 4) = SENT; advance(1) = 8; packet(2, 4) = DELIVERED; advance(48) = 56; packet(1, 4) = SENT; advance(1) = 57; packet(1, 4) = DELIVERED",
            "packet(1, 8) = 57; rule(JOINING, 0) = 50; offer(0, 2, 0) = 3; advance(2) = 59; packet(3, 4) = SENDING; advance(1) = 60; packet(3, 4) = DELIVERED");
    }

    private static void margin() {
        Edge.run(TERMS, "MARGIN (0 to 1000; 10): how early a packet becomes urgent.",
            "link(3) = 10; rule(MARGIN, -1) = BAD_VALUE; rule(MARGIN, 1001) = BAD_VALUE; addFlow(1) = 0; rule(HEADER, 0) = 2; offer(0, 1, 11) = 0; offer(0, 1, 12) = 1",
            "packet(0, 9) = 1; packet(1, 9) = 0; rule(MARGIN, 0) = 10; offer(0, 1, 1) = 2; offer(0, 1, 2) = 3; packet(2, 9) = 1; packet(3, 9) = 0; packet(0, 9) = 0",
            "rule(MARGIN, 1000) = 0; offer(0, 1, 1001) = 4; offer(0, 1, 1002) = 5; packet(4, 9) = 1; packet(5, 9) = 0; packet(3, 9) = 1");
    }

    private static void promotion() {
        Edge.run(TERMS, "PROMOTION (0 or 1; 1): whether urgent packets go ahead.",
            "link(4) = 1; rule(PROMOTION, -1) = BAD_VALUE; rule(PROMOTION, 2) = BAD_VALUE; link(4) = 1; addFlow(1) = 0; addFlow(1) = 1; offer(0, 1, 0) = 0",
            "offer(1, 1, 1) = 1; link(14) = 1; rule(PROMOTION, 0) = 1; link(14) = 0; advance(1) = 1; link(7) = 0; rule(PROMOTION, 1) = 0; link(14) = 1; advance(3) = 4",
            "link(7) = 1; link(10) = 1");
    }

    private static void packets() {
        Script script = Edge.of(TERMS, "the latest 120 are known").calls("addFlow(1) = 0");
        for (int number = 0; number < 240; number++) {
            script.calls("offer(0, " + (number + 1) + ", 0) = " + number + "; cancel(" + number + ") = 0");
        }
        // Packet 119 lay where 239 lies, and 120 is the oldest one; one more takes its place.
        script.calls("link(6) = 240; link(16) = 120; packet(119, 1) = NO_SUCH; packet(120, 1) = 121; start(120) = 7260*UNIT; packet(239, 1) = 240; packet(240, 1) = NO_SUCH")
            .calls("offer(0, 2000, 0) = 240; packet(120, 1) = NO_SUCH; start(120) = GONE+NO_SUCH; cancel(120) = NO_SUCH; packet(121, 1) = 122; start(121) = 7381*UNIT")
            .calls("packet(240, 1) = 2000; packet(240, 4) = WAITING; packet(239, 4) = CANCELED; packet(241, 1) = NO_SUCH; link(16) = 121; flow(0, 6) = 240; flow(0, 5) = 1");
        Edge.run(TERMS, "A packet has a flow, a length (1 to 2000), the time at which it was offered, and a deadline, which is a time, or none.",
            "addFlow(1) = 0; offer(0, 1, 0) = 0; offer(0, 2000, 1) = 1; offer(0, 0, 0) = BAD_VALUE; offer(0, 2001, 0) = BAD_VALUE; packet(0, 1) = 1; packet(1, 1) = 2000",
            "packet(0, 2) = 0; packet(0, 3) = NONE; packet(1, 3) = 1; advance(7) = 7; offer(0, 5, 9999) = 2; packet(2, 2) = 7; packet(2, 3) = 10006; offer(0, 5, 10000) = BAD_VALUE");
        Edge.run(TERMS, "Packets are numbered in the order in which they are offered, over all flows",
            "addFlow(1) = 0; addFlow(1) = 1; offer(1, 1, 0) = 0; offer(0, 0, 0) = BAD_VALUE; offer(0, 1, 0) = 1; offer(2, 1, 0) = NO_SUCH; cancel(1) = 0; offer(1, 1, 0) = 2; put(\"a1,b1\") = 5; load() = 2",
            "packet(3, 0) = 0; packet(4, 0) = 1; set(0, ROOM, 1) = 20; offer(0, 1, 0) = TOO_MANY; offer(1, 1, 0) = 5; link(6) = 6");
        Edge.run(TERMS, "It is WAITING, at first, SENDING, while one of its pieces is being sent, SENT, when all of it was sent but it is not delivered yet, DELIVERED, or CANCELED.",
            "addFlow(1) = 0; rule(HEADER, 0) = 2; set(0, SPLIT, 1) = 0; offer(0, 2, 0) = 0; offer(0, 2, 0) = 1; packet(0, 4) = 0; advance(1) = 1; packet(0, 4) = 1; advance(1) = 2; packet(0, 4) = 1; packet(1, 4) = 0",
            "cancel(1) = 1; packet(1, 4) = 4; advance(1) = 3; packet(0, 4) = 2; packet(0, 5) = 2; advance(1) = 4; packet(0, 4) = 3; advance(99) = 103; packet(0, 4) = 3; packet(1, 4) = 4");
        Edge.run(TERMS, "(Between two of its pieces it is WAITING.)",
            "addFlow(1) = 0; addFlow(1) = 1; rule(HEADER, 0) = 2; set(0, SPLIT, 2) = 0; offer(0, 4, 0) = 0; offer(1, 3, 0) = 1; packet(0, 4) = WAITING; advance(1) = 1",
            "packet(0, 4) = SENDING; advance(2) = 3; packet(0, 4) = WAITING; packet(0, 5) = 2; packet(1, 4) = SENDING; flow(0, 5) = 1; flow(0, 6) = 0; advance(3) = 6",
            "packet(0, 4) = SENDING; packet(1, 4) = DELIVERED; advance(2) = 8; packet(0, 4) = SENT; advance(1) = 9; packet(0, 4) = DELIVERED");
        Edge.run(TERMS, "The packets of a flow that are WAITING or SENDING form its queue, in their order; the first one is its head.",
            "addFlow(1) = 0; flow(0, 5) = 0; flow(0, 6) = NONE; set(0, SPLIT, 1) = 0; rule(HEADER, 0) = 2; offer(0, 2, 0) = 0; offer(0, 1, 0) = 1; offer(0, 1, 0) = 2",
            "flow(0, 5) = 3; flow(0, 6) = 0; cancel(0) = 2; flow(0, 6) = 1; offer(0, 2, 0) = 3; flow(0, 5) = 3; advance(1) = 1; packet(1, 4) = SENDING; flow(0, 5) = 3",
            "flow(0, 6) = 1; advance(1) = 2; flow(0, 5) = 2; flow(0, 6) = 2; advance(3) = 5; packet(3, 4) = SENT; flow(0, 5) = 0; flow(0, 6) = NONE");
    }

    private static void starts() {
        Edge.run(TERMS, "There is a virtual time V, 0 at first. Each flow has a finish, 0 at first.",
            "virtualTime() = 0; addFlow(1) = 0; amount(0, 0) = 0; amount(0, 1) = 0; amount(0, 2) = 0; offer(0, 1, 0) = 0; start(0) = 0; virtualTime() = 0");
        Edge.run(TERMS, "A packet of length n that is offered gets the start max(V, finish of its flow)",
            "addFlow(1) = 0; addFlow(1) = 1; addFlow(1) = 2; rule(HEADER, 0) = 2; offer(0, 1, 0) = 0; offer(0, 1, 0) = 1; start(1) = UNIT; offer(1, 1, 0) = 2",
            "advance(3) = 3; link(7) = 1; virtualTime() = UNIT; amount(0, 0) = 2*UNIT; offer(0, 1, 0) = 3; start(3) = 2*UNIT; amount(1, 0) = UNIT; offer(1, 1, 0) = 4",
            "start(4) = UNIT; amount(1, 0) = 2*UNIT; amount(2, 0) = 0; offer(2, 1, 0) = 5; start(5) = UNIT; amount(2, 0) = 2*UNIT");
        Edge.run(TERMS, "the finish of its flow becomes this start + n * UNIT / WEIGHT (with the weight that the flow has then)",
            "addFlow(16) = 0; addFlow(13) = 1; offer(0, 1, 0) = 0; amount(0, 0) = 45045; offer(0, 2000, 0) = 1; start(1) = 45045; amount(0, 0) = 2001*45045",
            "offer(1, 2000, 0) = 2; amount(1, 0) = 2000*55440; set(1, WEIGHT, 1) = 13; offer(1, 2000, 0) = 3; start(3) = 2000*55440; amount(1, 0) = 2000*776160");
        Edge.run(TERMS, "If the weight of a flow changes, starts and the finish stay, but later offers and the tags of its queue use the new weight.",
            "addFlow(2) = 0; set(0, SPLIT, 3) = 0; rule(HEADER, 0) = 2; offer(0, 6, 0) = 0; offer(0, 4, 0) = 1; advance(4) = 4; amount(0, 1) = 3*360360; set(0, WEIGHT, 3) = 2",
            "amount(0, 1) = UNIT; start(0) = 0; start(1) = 3*UNIT; amount(0, 0) = 5*UNIT; offer(0, 3, 0) = 2; start(2) = 5*UNIT; amount(0, 0) = 6*UNIT; set(0, WEIGHT, 1) = 3",
            "amount(0, 1) = 3*UNIT; amount(0, 0) = 6*UNIT");
    }

    private static void tagsAndDebts() {
        Edge.run(TERMS, "The tag of a flow whose queue is not empty is the start of its head + (length of its head sent so far) * UNIT / WEIGHT.",
            "addFlow(1) = 0; set(0, SPLIT, 1) = 0; rule(HEADER, 0) = 2; amount(0, 1) = 0; offer(0, 2, 0) = 0; offer(0, 1, 0) = 1; amount(0, 1) = 0; advance(1) = 1",
            "amount(0, 1) = 0; advance(1) = 2; amount(0, 1) = UNIT; advance(1) = 3; flow(0, 6) = 1; amount(0, 1) = 2*UNIT; amount(0, 0) = 3*UNIT; advance(1) = 4",
            "flow(0, 6) = NONE; amount(0, 1) = 3*UNIT");
        Edge.run(TERMS, "The debt of a flow is its tag, or its finish if its queue is empty, minus V, but at least 0.",
            "addFlow(1) = 0; addFlow(1) = 1; addFlow(1) = 2; rule(HEADER, 0) = 2; offer(0, 2, 0) = 0; offer(0, 2, 0) = 1; offer(1, 1, 0) = 2; amount(0, 2) = 0; advance(3) = 3",
            "link(7) = 2; amount(0, 1) = 2*UNIT; virtualTime() = 0; amount(0, 2) = 2*UNIT; advance(1) = 4; link(7) = 1; virtualTime() = 2*UNIT; amount(0, 1) = 2*UNIT",
            "amount(0, 2) = 0; flow(1, 5) = 0; amount(1, 1) = UNIT; amount(1, 2) = 0; amount(2, 1) = 0; amount(2, 2) = 0; advance(2) = 6; flow(0, 5) = 0; amount(0, 1) = 4*UNIT",
            "amount(0, 2) = 2*UNIT");
        Edge.run(TERMS, "minus V, but at least 0",
            "addFlow(1) = 0; addFlow(1) = 1; rule(HEADER, 0) = 2; set(1, SPLIT, 4) = 0; offer(1, 8, 0) = 0; offer(0, 2, 0) = 1; offer(0, 2, 0) = 2; offer(0, 2, 0) = 3",
            "advance(9) = 9; virtualTime() = 4*UNIT; amount(1, 1) = 4*UNIT; amount(1, 2) = 0; set(1, WEIGHT, 16) = 1; amount(1, 1) = 180180; amount(1, 2) = 0");
    }
}
