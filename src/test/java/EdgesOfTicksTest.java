/** Boundary cases of what happens in a tick, of urgency, of the next piece, and of lateness, delay and lag. */
public final class EdgesOfTicksTest {
    private static final String TERMS = "Terms";

    public static void main(String[] args) {
        pieceThatEnds();
        joined();
        idleness();
        forgiving();
        fluid();
        nextPiece();
        urgency();
        chosenByDeadline();
        chosenByTag();
        pieceLength();
        lateness();
        lag();
        Script.end();
    }

    private static void pieceThatEnds() {
        Edge.run(TERMS, "The time is 0 at first.", "link(0) = 0; advance(1) = 1; link(0) = 1");
        Edge.run(TERMS, "If a piece is being sent, the time that is left for it decreases by 1. If this is 0 then, the piece has been sent",
            "addFlow(1) = 0; offer(0, 1, 0) = 0; advance(1) = 1; link(9) = 3; advance(1) = 2; link(9) = 2; advance(1) = 3; link(9) = 1; link(7) = 0; link(15) = 0",
            "flow(0, 8) = 0; packet(0, 5) = 0; advance(1) = 4; link(9) = 0; link(7) = NONE; link(15) = 1; flow(0, 8) = 1; packet(0, 5) = 1; advance(1) = 5; link(9) = 0");
        Edge.run(TERMS, "its length is added to what was sent of the packet and of the flow",
            "addFlow(1) = 0; addFlow(1) = 1; rule(HEADER, 0) = 2; set(0, SPLIT, 1000) = 0; offer(0, 2000, 0) = 0; offer(0, 1, 0) = 1; advance(1000) = 1000; packet(0, 5) = 0; flow(0, 8) = 0; advance(1) = 1001; packet(0, 5) = 1000",
            "flow(0, 8) = 1000; advance(999) = 2000; flow(0, 8) = 1000; advance(1) = 2001; packet(0, 5) = 2000; flow(0, 8) = 2000; packet(1, 5) = 0; advance(1) = 2002; packet(1, 5) = 1; flow(0, 8) = 2001; flow(1, 8) = 0");
        Edge.run(TERMS, "it is SENT if it was sent in several pieces and JOINING is greater than 0, otherwise it is DELIVERED now",
            "addFlow(1) = 0; rule(HEADER, 0) = 2; set(0, SPLIT, 2) = 0; offer(0, 2, 0) = 0; offer(0, 3, 0) = 1; advance(3) = 3; packet(0, 6) = 1; packet(0, 4) = DELIVERED",
            "advance(3) = 6; packet(1, 6) = 2; packet(1, 4) = SENT; flow(0, 5) = 0; rule(JOINING, 0) = 1; offer(0, 3, 0) = 2; offer(0, 2, 0) = 3; advance(4) = 10",
            "packet(2, 6) = 2; packet(2, 4) = DELIVERED; packet(2, 8) = 10; advance(2) = 12; packet(3, 6) = 1; packet(3, 4) = DELIVERED");
        Edge.run(TERMS, "if the packet has been sent completely, it leaves the queue",
            "addFlow(1) = 0; rule(HEADER, 0) = 2; set(0, SPLIT, 1) = 0; set(0, ROOM, 1) = 20; offer(0, 2, 0) = 0; advance(2) = 2; packet(0, 5) = 1; flow(0, 5) = 1",
            "offer(0, 1, 0) = TOO_MANY; advance(1) = 3; packet(0, 5) = 2; flow(0, 5) = 0; packet(0, 4) = SENT; offer(0, 1, 0) = 1; flow(0, 6) = 1");
        Edge.run(TERMS, "if it is not complete, it is WAITING",
            "addFlow(1) = 0; addFlow(1) = 1; rule(HEADER, 0) = 2; set(0, SPLIT, 1999) = BAD_VALUE; set(0, SPLIT, 1000) = 0; offer(0, 1001, 0) = 0; offer(1, 2000, 0) = 1",
            "advance(1000) = 1000; packet(0, 4) = SENDING; advance(1) = 1001; packet(0, 4) = WAITING; packet(0, 5) = 1000; flow(0, 7) = 1; link(7) = 1; cancel(0) = NOT_POSSIBLE");
    }

    private static void joined() {
        Edge.run(TERMS, "Each packet that is SENT, and whose last piece was finished JOINING ticks ago or more, is DELIVERED now.",
            "addFlow(1) = 0; rule(HEADER, 0) = 2; set(0, SPLIT, 1) = 0; rule(JOINING, 3) = 1; offer(0, 2, 0) = 0; offer(0, 2, 0) = 1; advance(3) = 3; packet(0, 4) = SENT",
            "advance(2) = 5; packet(0, 4) = SENT; packet(1, 4) = SENT; advance(1) = 6; packet(0, 4) = DELIVERED; packet(0, 8) = 6; packet(1, 4) = SENT; rule(JOINING, 50) = 3",
            "advance(20) = 26; packet(1, 4) = SENT; rule(JOINING, 20) = 50; packet(1, 4) = SENT; advance(1) = 27; packet(1, 4) = DELIVERED; packet(1, 8) = 27");
        Edge.run(TERMS, "JOINING ticks ago or more, is DELIVERED now",
            "addFlow(1) = 0; rule(HEADER, 0) = 2; set(0, SPLIT, 1) = 0; rule(JOINING, 50) = 1; offer(0, 2, 0) = 0; offer(0, 2, 0) = 1; offer(0, 2, 0) = 2; advance(7) = 7",
            "packet(0, 4) = SENT; packet(2, 4) = SENT; rule(JOINING, 0) = 50; packet(0, 4) = SENT; awaitDelivery(9) = 0; link(0) = 8; packet(0, 8) = 8; packet(1, 8) = 8",
            "packet(2, 8) = 8; flow(0, 9) = 3; flow(0, 12) = 8; flow(0, 13) = 24");
    }

    private static void idleness() {
        Edge.run(TERMS, "if its queue is empty, its idleness increases by 1, otherwise it becomes 0",
            "addFlow(1) = 0; rule(HEADER, 0) = 2; flow(0, 11) = 0; advance(2) = 2; flow(0, 11) = 2; offer(0, 1, 0) = 0; flow(0, 11) = 2; advance(1) = 3; flow(0, 11) = 0",
            "advance(1) = 4; flow(0, 5) = 0; flow(0, 11) = 1; offer(0, 9, 0) = 1; cancel(1) = 0; advance(1) = 5; flow(0, 11) = 2; set(0, SPLIT, 1) = 0; rule(JOINING, 50) = 1",
            "offer(0, 2, 0) = 2; advance(3) = 8; packet(2, 4) = SENT; flow(0, 11) = 1; advance(1) = 9; flow(0, 11) = 2");
        String rule = "If PATIENCE is greater than 0, MERCY is not NOTHING, and the idleness is at least PATIENCE then, the idleness becomes 0";
        Edge.run(TERMS, rule,
            "addFlow(1) = 0; addFlow(1) = 1; addFlow(1) = 2; set(1, PATIENCE, 3) = 0; set(1, MERCY, NOTHING) = 2; set(2, PATIENCE, 3) = 0; advance(2) = 2; flow(0, 11) = 2",
            "flow(1, 11) = 2; flow(2, 11) = 2; advance(1) = 3; flow(0, 11) = 3; flow(1, 11) = 3; flow(2, 11) = 0; advance(4) = 7; flow(0, 11) = 7; flow(1, 11) = 7",
            "flow(2, 11) = 1; set(1, MERCY, HALF) = 0; flow(1, 11) = 7; advance(1) = 8; flow(1, 11) = 0; set(0, PATIENCE, 9) = 0; flow(0, 11) = 8; advance(1) = 9; flow(0, 11) = 0",
            "set(0, PATIENCE, 1) = 9; advance(5) = 14; flow(0, 11) = 0; set(0, PATIENCE, 0) = 1; advance(5) = 19; flow(0, 11) = 5");
        Edge.run(TERMS, rule,
            "addFlow(1) = 0; rule(HEADER, 0) = 2; offer(0, 1, 0) = 0; advance(11) = 11; flow(0, 11) = 10; amount(0, 2) = UNIT; set(0, PATIENCE, 12) = 0; advance(1) = 12",
            "flow(0, 11) = 11; amount(0, 2) = UNIT; advance(1) = 13; flow(0, 11) = 0; amount(0, 2) = 0");
    }

    private static void forgiving() {
        String rule = "if the finish is greater than V: with ALL, the finish becomes V; with HALF, it becomes V + (finish - V) / 2.";
        // Flow 0 takes V to 3 units; the finishes of the others are then 2 (below V), 3 (at V) and 4 units (above it).
        String above = "addFlow(1) = 0; addFlow(1) = 1; addFlow(1) = 2; addFlow(1) = 3; rule(HEADER, 0) = 2; offer(0, 3, 0) = 0; offer(0, 1, 0) = 1; offer(1, 2, 0) = 2;"
            + " offer(2, 3, 0) = 3; offer(3, 4, 0) = 4; advance(13) = 13; link(7) = 1; virtualTime() = 3*UNIT; amount(1, 0) = 2*UNIT; amount(2, 0) = 3*UNIT; amount(3, 0) = 4*UNIT;"
            + " set(1, PATIENCE, 1) = 0; set(2, PATIENCE, 1) = 0; set(3, PATIENCE, 1) = 0";
        Edge.run(TERMS, rule, above, "advance(1) = 14; amount(1, 0) = 2*UNIT; amount(2, 0) = 3*UNIT; amount(3, 0) = 3*UNIT; amount(1, 3) = 0; amount(2, 3) = 0; amount(3, 3) = UNIT",
            "flow(1, 11) = 0; flow(2, 11) = 0; flow(3, 11) = 0");
        Edge.run(TERMS, rule, above, "set(1, MERCY, HALF) = 2; set(2, MERCY, HALF) = 2; set(3, MERCY, HALF) = 2; advance(1) = 14; amount(1, 0) = 2*UNIT; amount(2, 0) = 3*UNIT",
            "amount(3, 0) = 3*UNIT+360360; amount(1, 3) = 0; amount(2, 3) = 0; amount(3, 3) = 360360; flow(1, 11) = 0; flow(2, 11) = 0; flow(3, 11) = 0");
        Script halves = Edge.of(TERMS, rule).calls("addFlow(16) = 0; set(0, PATIENCE, 1) = 0; set(0, MERCY, HALF) = 2; rule(HEADER, 0) = 2; offer(0, 1, 0) = 0; advance(1) = 1");
        for (int k = 1; k <= 18; k++) {
            halves.calls("advance(1) = " + (k + 1) + "; amount(0, 0) = " + (45045 >> k) + "; amount(0, 3) = " + (45045 - (45045 >> k)) + "; flow(0, 11) = 0");
        }
        Edge.run(TERMS, "What the finish lost is added to the forgiven amount of the flow.",
            "addFlow(1) = 0; set(0, PATIENCE, 1) = 0; rule(HEADER, 0) = 2; amount(0, 3) = 0; offer(0, 3, 0) = 0; advance(4) = 4; amount(0, 3) = 3*UNIT; offer(0, 2, 0) = 1",
            "start(1) = 0; advance(3) = 7; amount(0, 3) = 5*UNIT; advance(9) = 16; amount(0, 3) = 5*UNIT; offer(0, 1, 0) = 2; set(0, MERCY, HALF) = 2; advance(2) = 18; amount(0, 3) = 5*UNIT+360360");
    }

    private static void fluid() {
        String rule = "Each of these flows loses UNIT * WEIGHT / W of it, but at most what it has; this is added to its fluid service.";
        Edge.run(TERMS, rule,
            "addFlow(1) = 0; advance(1) = 1; amount(0, 4) = 0; amount(0, 5) = 0; offer(0, 1, 0) = 0; amount(0, 4) = UNIT; advance(1) = 2; amount(0, 4) = 0; amount(0, 5) = UNIT",
            "advance(1) = 3; amount(0, 4) = 0; amount(0, 5) = UNIT");
        Edge.run(TERMS, rule,
            "addFlow(16) = 0; addFlow(1) = 1; offer(0, 1, 0) = 0; offer(1, 1, 0) = 1; advance(1) = 1; amount(0, 4) = 42396; amount(1, 4) = 678325; advance(1) = 2",
            "amount(0, 4) = 0; amount(0, 5) = UNIT; amount(1, 4) = 635930; amount(1, 5) = 84790; advance(1) = 3; amount(1, 4) = 0; amount(1, 5) = UNIT");
        Edge.run(TERMS, "let W be the sum of the weights of all flows that have fluid left",
            "addFlow(16) = 0; addFlow(16) = 1; addFlow(16) = 2; addFlow(16) = 3; addFlow(16) = 4; addFlow(16) = 5; offer(0, 1, 0) = 0; advance(1) = 1; amount(0, 5) = UNIT",
            "offer(0, 1, 0) = 1; offer(1, 1, 0) = 2; offer(2, 1, 0) = 3; offer(3, 1, 0) = 4; offer(4, 1, 0) = 5; offer(5, 1, 0) = 6; advance(1) = 2; amount(0, 5) = 7*120120",
            "amount(5, 5) = 120120; amount(5, 4) = 5*120120; advance(5) = 7; amount(5, 4) = 0; amount(0, 4) = 0; amount(0, 5) = 2*UNIT; amount(5, 5) = UNIT; advance(1) = 8; amount(5, 5) = UNIT");
        // After 17 ticks flow 0 has 1 left of its fluid: it still counts for W, and then not any more.
        Edge.run(TERMS, "all flows that have fluid left",
            "addFlow(7) = 0; addFlow(10) = 1; offer(0, 7, 0) = 0; offer(1, 100, 0) = 1; advance(17) = 17; amount(0, 4) = 1; amount(1, 5) = 7207184; advance(1) = 18; amount(0, 4) = 0; amount(0, 5) = 7*UNIT; amount(1, 5) = 7631136",
            "advance(1) = 19; amount(0, 5) = 7*UNIT; amount(1, 5) = 8351856");
        Edge.run(TERMS, "(Offering a packet of length n gives its flow n * UNIT more fluid.)",
            "addFlow(3) = 0; offer(0, 1, 0) = 0; amount(0, 4) = UNIT; offer(0, 2000, 0) = 1; amount(0, 4) = 2001*UNIT; offer(0, 2001, 0) = BAD_VALUE; amount(0, 4) = 2001*UNIT",
            "cancel(1) = 1; amount(0, 4) = 2001*UNIT; advance(2000) = 2000; amount(0, 4) = UNIT; advance(1) = 2001; amount(0, 4) = 0; amount(0, 5) = 2001*UNIT; amount(0, 6) = 2000*UNIT");
    }

    private static void nextPiece() {
        Edge.run(TERMS, "If no piece is being sent, and some queue is not empty, the next piece begins",
            "advance(1) = 1; link(7) = NONE; addFlow(1) = 0; addFlow(1) = 1; advance(1) = 2; link(7) = NONE; offer(1, 3, 0) = 0; link(7) = NONE; advance(1) = 3; link(7) = 0",
            "link(9) = 5; offer(0, 1, 1) = 1; advance(4) = 7; link(7) = 0; link(9) = 1; advance(1) = 8; link(7) = 1; link(9) = 3; advance(3) = 11; link(7) = NONE; link(14) = NONE");
    }

    private static void urgency() {
        String rule = "A packet is urgent at some time if PROMOTION is 1, it has a deadline, and time + (ticks that its rest takes) + MARGIN is at least the deadline.";
        Edge.run(TERMS, rule,
            "addFlow(1) = 0; offer(0, 5, 0) = 0; offer(0, 5, 17) = 1; offer(0, 5, 18) = 2; packet(0, 9) = 0; packet(1, 9) = 1; packet(2, 9) = 0; rule(PROMOTION, 0) = 1",
            "packet(1, 9) = 0; rule(PROMOTION, 1) = 0; rule(MARGIN, 11) = 10; packet(2, 9) = 1; rule(MARGIN, 10) = 11; packet(2, 9) = 0; advance(1) = 1; packet(2, 9) = 1");
        Edge.run(TERMS, rule,
            "addFlow(1) = 0; offer(0, 2000, 9999) = 0; advance(2000) = 2000; advance(2000) = 4000; packet(0, 4) = DELIVERED; offer(0, 2000, 9999) = 1; offer(0, 1, 9999) = 2; rule(MARGIN, 1000) = 10",
            "packet(1, 9) = 0; packet(2, 9) = 0; packet(2, 3) = 13999; advance(2000) = 6000; advance(2) = 6002; advance(1) = 6003; packet(1, 4) = DELIVERED; packet(2, 4) = SENDING");
        String rest = "HEADER + r, if s is 0 or r is at most s; otherwise r + HEADER * (number of pieces), where the number of pieces is (r + s - 1) / s.";
        // With MARGIN 0 at the time 0, a packet is urgent if its rest takes at least its deadline.
        dueRest(rest, 0, 10, 7, 17);
        dueRest(rest, 10, 10, 7, 17);
        dueRest(rest, 11, 10, 7, 17);
        dueRest(rest, 9, 10, 7, 24);
        dueRest(rest, 5, 10, 7, 24);
        dueRest(rest, 4, 10, 7, 31);
        dueRest(rest, 1, 10, 7, 80);
        dueRest(rest, 1, 1, 7, 8);
        dueRest(rest, 1000, 1000, 50, 1050);
        dueRest(rest, 1000, 1001, 50, 1101);
        dueRest(rest, 1000, 2000, 50, 2100);
        dueRest(rest, 999, 1998, 50, 2098);
        dueRest(rest, 999, 1999, 50, 2149);
        dueRest(rest, 0, 2000, 50, 2050);
        dueRest(rest, 5, 2000, 2, 2800);
        dueRest(rest, 3, 10, 0, 10);
        Edge.run(TERMS, "with r as the length that was not sent yet and s as SPLIT",
            "addFlow(1) = 0; rule(MARGIN, 0) = 10; rule(HEADER, 3) = 2; set(0, SPLIT, 2) = 0; offer(0, 5, 15) = 0; packet(0, 9) = 0; advance(1) = 1; packet(0, 9) = 1; advance(5) = 6",
            "packet(0, 5) = 2; packet(0, 9) = 1; set(0, SPLIT, 3) = 2; packet(0, 9) = 0; set(0, SPLIT, 0) = 3; packet(0, 9) = 0; advance(3) = 9; packet(0, 9) = 1");
    }

    private static void dueRest(String sentence, int split, int length, int header, int ticks) {
        Edge.run(TERMS, sentence,
            "addFlow(1) = 0; rule(MARGIN, 0) = 10; rule(HEADER, " + header + ") = 2; set(0, SPLIT, " + split + ") = 0",
            "offer(0, " + length + ", " + ticks + ") = 0; offer(0, " + length + ", " + (ticks + 1) + ") = 1; packet(0, 9) = 1; packet(1, 9) = 0");
    }

    private static void chosenByDeadline() {
        String rule = "if some heads are urgent, the one with the earliest deadline (of several, that of the lowest flow); the piece is promoted then.";
        Edge.run(TERMS, rule,
            "addFlow(1) = 0; addFlow(1) = 1; addFlow(1) = 2; rule(HEADER, 0) = 2; offer(0, 1, 9) = 0; offer(1, 1, 8) = 1; offer(2, 1, 8) = 2; link(14) = 1; advance(1) = 1",
            "link(7) = 1; link(10) = 1; advance(1) = 2; link(7) = 2; link(10) = 1; advance(1) = 3; link(7) = 0; link(10) = 1; advance(1) = 4; piece(0, 4) = 1; piece(1, 4) = 1; piece(2, 4) = 1",
            "virtualTime() = 0; packet(0, 7) = 1");
        Edge.run(TERMS, rule,
            "addFlow(1) = 0; addFlow(1) = 1; addFlow(1) = 2; addFlow(1) = 3; rule(HEADER, 0) = 2; offer(0, 1, 0) = 0; offer(1, 1, 7) = 1; offer(2, 1, 8) = 2; offer(3, 1, 9) = 3; link(14) = 1; advance(1) = 1; link(7) = 1; link(14) = 1",
            "advance(1) = 2; link(7) = 2; advance(1) = 3; link(7) = 3; advance(1) = 4; link(7) = 0; link(10) = 0");
        Edge.run(TERMS, "the piece is promoted then",
            "addFlow(1) = 0; addFlow(1) = 1; rule(HEADER, 0) = 2; offer(0, 3, 0) = 0; offer(1, 2, 1) = 1; offer(1, 2, 1) = 2; start(2) = 2*UNIT; advance(3) = 3; link(7) = 2; link(10) = 1; virtualTime() = 0; advance(2) = 5; link(7) = 0; link(10) = 0",
            "virtualTime() = 0; piece(0, 4) = 1; piece(1, 4) = 1; advance(3) = 8; piece(2, 4) = 0");
        Edge.run(TERMS, rule,
            "addFlow(1) = 0; addFlow(1) = 1; addFlow(1) = 2; rule(HEADER, 0) = 2; rule(MARGIN, 0) = 10; offer(0, 3, 0) = 0; offer(1, 2, 4) = 1; offer(2, 3, 4) = 2; packet(2, 9) = 0",
            "link(14) = 0; advance(1) = 1; packet(1, 9) = 0; packet(2, 9) = 1; link(7) = 2; link(10) = 1; link(14) = 2; advance(1) = 2; packet(1, 9) = 1; link(14) = 1");
        Edge.run(TERMS, rule,
            "addFlow(1) = 0; addFlow(1) = 1; rule(MARGIN, 1000) = 10; offer(0, 9, 9999) = 0; offer(1, 9, 0) = 1; offer(1, 9, 1) = 2; packet(0, 9) = 0; packet(2, 9) = 1; link(14) = 0",
            "advance(1) = 1; link(7) = 0; link(10) = 0; advance(11) = 12; link(7) = 1; link(10) = 0; advance(11) = 23; link(7) = 2; link(10) = 1");
    }

    private static void chosenByTag() {
        String rule = "Otherwise the flow with the least tag (of several, the lowest one); V becomes this tag, if this is greater.";
        Edge.run(TERMS, rule,
            "addFlow(1) = 0; addFlow(1) = 1; addFlow(1) = 2; rule(HEADER, 0) = 2; offer(2, 1, 0) = 0; offer(2, 1, 0) = 1; offer(1, 1, 0) = 2; offer(1, 1, 0) = 3; offer(0, 2, 0) = 4",
            "offer(0, 1, 0) = 5; link(14) = 0; advance(1) = 1; link(7) = 4; virtualTime() = 0; advance(2) = 3; link(7) = 2; virtualTime() = 0; advance(1) = 4; link(7) = 0; advance(1) = 5",
            "link(7) = 3; virtualTime() = UNIT; advance(1) = 6; link(7) = 1; virtualTime() = UNIT; advance(1) = 7; link(7) = 5; virtualTime() = 2*UNIT; advance(1) = 8; virtualTime() = 2*UNIT");
        Edge.run(TERMS, rule,
            "addFlow(16) = 0; addFlow(15) = 1; rule(HEADER, 0) = 2; offer(1, 15, 0) = 0; offer(1, 1, 0) = 1; offer(0, 16, 0) = 2; offer(0, 1, 0) = 3; start(1) = UNIT; start(3) = UNIT",
            "advance(32) = 32; link(7) = 3; virtualTime() = UNIT; offer(0, 1, 0) = 4; start(4) = UNIT+45045; advance(1) = 33; link(7) = 1; virtualTime() = UNIT; advance(1) = 34; link(7) = 4",
            "virtualTime() = UNIT+45045");
        Edge.run(TERMS, "V becomes this tag, if this is greater",
            "addFlow(1) = 0; addFlow(1) = 1; rule(HEADER, 0) = 2; set(1, SPLIT, 4) = 0; offer(1, 8, 0) = 0; offer(0, 2, 0) = 1; offer(0, 2, 0) = 2; offer(0, 2, 0) = 3; advance(9) = 9",
            "link(7) = 3; virtualTime() = 4*UNIT; set(1, WEIGHT, 2) = 1; amount(1, 1) = 2*UNIT; advance(2) = 11; link(7) = 0; virtualTime() = 4*UNIT");
    }

    private static void pieceLength() {
        Edge.run(TERMS, "The length of the piece is the length of the packet that was not sent yet, but at most SPLIT, if this is not 0. It takes HEADER + length ticks.",
            "addFlow(1) = 0; set(0, SPLIT, 5) = 0; offer(0, 4, 0) = 0; offer(0, 5, 0) = 1; offer(0, 6, 0) = 2; advance(1) = 1; link(8) = 4; link(9) = 6; advance(6) = 7; link(7) = 1",
            "link(8) = 5; link(9) = 7; advance(7) = 14; link(7) = 2; link(8) = 5; link(9) = 7; advance(7) = 21; link(7) = 2; link(8) = 1; link(9) = 3; set(0, SPLIT, 0) = 5",
            "offer(0, 2000, 0) = 3; advance(3) = 24; link(7) = 3; link(8) = 2000; link(9) = 2002");
        Edge.run(TERMS, "The packet is SENDING.", "addFlow(1) = 0; offer(0, 1, 0) = 0; packet(0, 4) = WAITING; advance(1) = 1; packet(0, 4) = SENDING; link(7) = 0");
    }

    private static void lateness() {
        Edge.run(TERMS, "A packet that is DELIVERED at a time greater than its deadline is late.",
            "addFlow(1) = 0; rule(HEADER, 0) = 2; offer(0, 1, 2) = 0; offer(0, 1, 2) = 1; offer(0, 1, 0) = 2; advance(2) = 2; packet(0, 8) = 2; flow(0, 9) = 1; flow(0, 10) = 0",
            "advance(1) = 3; packet(1, 8) = 3; flow(0, 9) = 2; flow(0, 10) = 1; advance(1) = 4; flow(0, 9) = 3; flow(0, 10) = 1");
        Edge.run(TERMS, "A packet that is DELIVERED at a time greater than its deadline is late.",
            "addFlow(1) = 0; rule(HEADER, 0) = 2; offer(0, 1, 3) = 0; advance(2) = 2; packet(0, 8) = 2; flow(0, 9) = 1; flow(0, 10) = 0; offer(0, 1, 9999) = 1; advance(2) = 4; packet(1, 8) = 4; flow(0, 10) = 0",
            "rule(JOINING, 9) = 1; set(0, SPLIT, 1) = 0; offer(0, 2, 12) = 2; offer(0, 2, 13) = 3; advance(12) = 16; packet(2, 8) = 16; flow(0, 10) = 0; advance(2) = 18; packet(3, 8) = 18; flow(0, 9) = 4; flow(0, 10) = 1");
        Edge.run(TERMS, "The delay of a DELIVERED packet is the time at which it was delivered minus the time at which it was offered.",
            "addFlow(1) = 0; rule(HEADER, 0) = 2; advance(7) = 7; offer(0, 1, 0) = 0; offer(0, 1, 0) = 1; flow(0, 12) = 0; flow(0, 13) = 0; advance(2) = 9; flow(0, 12) = 2; flow(0, 13) = 2",
            "advance(1) = 10; flow(0, 12) = 3; flow(0, 13) = 5; offer(0, 1, 0) = 2; advance(2) = 12; flow(0, 12) = 3; flow(0, 13) = 7");
    }

    private static void lag() {
        Edge.run(TERMS, "The lag of a flow is its fluid service minus UNIT * (length that was sent of it).",
            "addFlow(1) = 0; addFlow(1) = 1; rule(HEADER, 0) = 2; amount(0, 6) = 0; offer(0, 4, 0) = 0; offer(1, 9, 0) = 1; advance(4) = 4; amount(0, 6) = 2*UNIT; advance(1) = 5",
            "flow(0, 8) = 4; amount(0, 5) = 5*360360; amount(0, 6) = -3*360360; amount(0, 7) = 2*UNIT; advance(3) = 8; amount(0, 6) = 0; advance(1) = 9; amount(0, 6) = 0");
    }
}
