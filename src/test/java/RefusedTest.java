/**
 * "A call that returns an error changes nothing", and errors come in the order in which the document names them: each
 * refused call is made alone, in states in which it is refused for one reason or for several. Nor does a call change
 * anything that only asks.
 */
public final class RefusedTest {
    // Packets that are DELIVERED (0), SENT (1), CANCELED (2), SENDING (3), WAITING between two pieces (4) and WAITING (5, 6); a text; both slots.
    private static final String BUSY = "addFlow(3) = 0; addFlow(2) = 1; addFlow(5) = 2; rule(HEADER, 1) = 2; rule(JOINING, 40) = 1; rule(MARGIN, 0) = 10; set(0, SPLIT, 4) = 0;"
        + " set(1, PATIENCE, 7) = 0; set(1, MERCY, HALF) = 2; set(2, PATIENCE, 3) = 0; save(1) = 0; offer(1, 5, 0) = 0; offer(0, 6, 9) = 1; offer(2, 9, 0) = 2; cancel(2) = 0; advance(15) = 15;"
        + " offer(1, 8, 0) = 3; offer(0, 9, 400) = 4; save(0) = 15; offer(1, 2, 70) = 5; put(\"a7,b1@3*\") = 8; advance(12) = 27; offer(2, 5, 60) = 6; put(\"2,c2000\") = 15; advance(1) = 28;"
        + " packet(0, 4) = DELIVERED; packet(1, 4) = SENT; packet(2, 4) = CANCELED; packet(3, 4) = SENDING; packet(4, 4) = WAITING; packet(4, 5) = 4; packet(5, 4) = WAITING; fault() = NONE";
    // Six flows with full queues, 120 packets, more than 60 pieces, and a full pad with a fault at its end; packet 0 is always urgent.
    private static final String FULL = "addFlow(1) = 0; addFlow(2) = 1; addFlow(3) = 2; addFlow(4) = 3; addFlow(5) = 4; addFlow(16) = 5; rule(HEADER, 0) = 2; set(0, SPLIT, 1) = 0; save(0) = 0;"
        + " put(\"a2000@1,\") = 8; put(\"a9*9,a3*\") = 16; put(\"9,a4\") = 20; load() = 20; put(\"b9*9,b3*\") = 8; put(\"9,b4*2\") = 14; load() = 20; put(\"c9*9,c3*\") = 8; put(\"9,c4*2\") = 14; load() = 20;"
        + " put(\"d9*9,d3*\") = 8; put(\"9,d4*2\") = 14; load() = 20; put(\"e9*9,e3*\") = 8; put(\"9,e4*2\") = 14; load() = 20; put(\"f9*9,f3*\") = 8; put(\"9,f4*2\") = 14; load() = 20; advance(70) = 70;"
        + " save(1) = 70; rule(HEADER, 9) = 0; advance(1) = 71; link(9) = 10; put(\"a1,a1,a1\") = 8; put(\",a1,a1,a\") = 16; put(\"1,a1,a1,\") = 24; put(\"a1,a1,a1\") = 32; put(\",a1,a1,a\") = 40; put(\"1,a1,a1,\") = 48; put(\"a1,a1,a1\") = 56;"
        + " put(\",a1,a1,a\") = 64; put(\"1,a1,a1,\") = 72; put(\"a1,a1,a0\") = 80; link(6) = 120; link(15) = 70; packet(0, 4) = SENDING; flow(0, 5) = 20; flow(5, 5) = 20";

    public static void main(String[] args) {
        Edge.of("Terms", "A call that returns an error changes nothing.");
        Edge.of("Terms", "it names its errors in the order in which they are checked, and the first one that applies is returned");
        newObject();
        busySettings();
        busyPackets();
        busyTexts();
        busyTime();
        busyForecasts();
        onlyAsked();
        full();
        wouldForget();
        lastTime();
        Script.end();
    }

    private static void newObject() {
        new Twins("refused by a new object", "")
            .unchangedBy("addFlow(0) = BAD_VALUE; addFlow(17) = BAD_VALUE; set(0, WEIGHT, 1) = NO_SUCH; set(0, 5, 99) = NO_SUCH; rule(4, 0) = BAD_VALUE; rule(HEADER, 51) = BAD_VALUE; offer(0, 1, 0) = NO_SUCH; offer(0, 0, -1) = NO_SUCH")
            .unchangedBy("cancel(0) = NO_SUCH; packet(0, 0) = NO_SUCH; packet(0, 10) = NO_SUCH; start(0) = GONE+NO_SUCH; put(0) = BAD_VALUE; put(32) = BAD_VALUE; load() = BAD_TEXT; advance(0) = BAD_VALUE; advance(2001) = BAD_VALUE")
            .unchangedBy("awaitDelivery(0) = BAD_VALUE; awaitDelivery(2001) = BAD_VALUE; flow(0, 0) = NO_SUCH; flow(0, 15) = NO_SUCH; amount(0, 0) = GONE+NO_SUCH; amount(0, 8) = GONE+NO_SUCH; link(17) = BAD_VALUE; piece(0, 5) = BAD_VALUE")
            .unchangedBy("apart(0, 0) = GONE+NO_SUCH; forecast(0, 0) = NO_SUCH; forecast(0, 1) = NO_SUCH; leastWeight(0, 0) = NO_SUCH; leastWeight(0, 1) = NO_SUCH; bestSplit(0, -1, 0, 0, 0) = NO_SUCH; bestSplit(0, 0, 1, 1, 1) = NO_SUCH")
            .unchangedBy("save(-1) = BAD_VALUE; save(2) = BAD_VALUE; restore(-1) = BAD_VALUE; restore(2) = BAD_VALUE; restore(0) = NOT_POSSIBLE; restore(1) = NOT_POSSIBLE");
    }

    private static void busySettings() {
        new Twins("refused by a link in use", BUSY)
            .unchangedBy("addFlow(0) = BAD_VALUE; addFlow(17) = BAD_VALUE; addFlow(-1) = BAD_VALUE")
            .unchangedBy("set(3, WEIGHT, 1) = NO_SUCH; set(-1, WEIGHT, 1) = NO_SUCH; set(3, 5, 1) = NO_SUCH; set(3, WEIGHT, 17) = NO_SUCH; set(0, 5, 1) = BAD_VALUE; set(0, -1, 1) = BAD_VALUE; set(0, 5, 99) = BAD_VALUE")
            .unchangedBy("set(0, WEIGHT, 0) = BAD_VALUE; set(0, WEIGHT, 17) = BAD_VALUE; set(1, ROOM, 0) = BAD_VALUE; set(1, ROOM, 21) = BAD_VALUE; set(0, SPLIT, -1) = BAD_VALUE; set(0, SPLIT, 1001) = BAD_VALUE")
            .unchangedBy("set(1, PATIENCE, -1) = BAD_VALUE; set(1, PATIENCE, 1001) = BAD_VALUE; set(1, MERCY, -1) = BAD_VALUE; set(1, MERCY, 3) = BAD_VALUE")
            .unchangedBy("rule(HEADER, -1) = BAD_VALUE; rule(HEADER, 51) = BAD_VALUE; rule(JOINING, -1) = BAD_VALUE; rule(JOINING, 51) = BAD_VALUE; rule(MARGIN, -1) = BAD_VALUE; rule(MARGIN, 1001) = BAD_VALUE")
            .unchangedBy("rule(PROMOTION, -1) = BAD_VALUE; rule(PROMOTION, 2) = BAD_VALUE; rule(4, 1) = BAD_VALUE; rule(-1, 1) = BAD_VALUE; rule(4, -1) = BAD_VALUE");
    }

    private static void busyPackets() {
        new Twins("refused by a link in use", BUSY)
            .unchangedBy("offer(3, 1, 0) = NO_SUCH; offer(-1, 1, 0) = NO_SUCH; offer(3, 0, 0) = NO_SUCH; offer(3, 1, 10000) = NO_SUCH; offer(0, 0, 0) = BAD_VALUE; offer(0, 2001, 0) = BAD_VALUE; offer(0, 1, -1) = BAD_VALUE; offer(0, 1, 10000) = BAD_VALUE")
            .unchangedBy("cancel(-1) = NO_SUCH; cancel(7) = NO_SUCH; cancel(0) = NOT_POSSIBLE; cancel(1) = NOT_POSSIBLE; cancel(2) = NOT_POSSIBLE; cancel(3) = NOT_POSSIBLE; cancel(4) = NOT_POSSIBLE")
            .unchangedBy("packet(7, 0) = NO_SUCH; packet(-1, 0) = NO_SUCH; packet(7, 10) = NO_SUCH; packet(0, 10) = BAD_VALUE; packet(0, -1) = BAD_VALUE; start(7) = GONE+NO_SUCH; start(-1) = GONE+NO_SUCH")
            .unchangedBy("flow(3, 0) = NO_SUCH; flow(3, 15) = NO_SUCH; flow(0, 15) = BAD_VALUE; flow(0, -1) = BAD_VALUE; amount(3, 0) = GONE+NO_SUCH; amount(3, 8) = GONE+NO_SUCH; amount(0, 8) = GONE+BAD_VALUE; amount(0, -1) = GONE+BAD_VALUE")
            .unchangedBy("link(-1) = BAD_VALUE; link(17) = BAD_VALUE; piece(0, -1) = BAD_VALUE; piece(0, 5) = BAD_VALUE; piece(99, 5) = BAD_VALUE; apart(0, 3) = GONE+NO_SUCH; apart(3, 0) = GONE+NO_SUCH; apart(-1, -1) = GONE+NO_SUCH");
        String small = "addFlow(2) = 0; set(0, ROOM, 2) = 20; offer(0, 4, 0) = 0; offer(0, 5, 9) = 1; save(0) = 0; put(\"a1\") = 2";
        new Twins("refused by a queue without room", small)
            .unchangedBy("offer(0, 1, 0) = TOO_MANY; offer(0, 2000, 9999) = TOO_MANY; offer(0, 0, 0) = BAD_VALUE; offer(0, 2001, 0) = BAD_VALUE; offer(0, 1, 10000) = BAD_VALUE; offer(1, 1, 0) = NO_SUCH; offer(1, 0, 0) = NO_SUCH");
        new Twins("refused by a queue above its room", small + "; set(0, ROOM, 1) = 2").unchangedBy("offer(0, 1, 0) = TOO_MANY; offer(0, 1, -1) = BAD_VALUE; offer(-1, 1, -1) = NO_SUCH");
    }

    private static void busyTexts() {
        String bits = "put(" + (97L << 16) + ") = BAD_VALUE; put(" + (97L << 16 | 97) + ") = BAD_VALUE; put(" + (Long.MIN_VALUE | 97) + ") = BAD_VALUE";
        new Twins("refused by a link in use", BUSY).unchangedBy("put(0) = BAD_VALUE; put(32) = BAD_VALUE; put(127) = BAD_VALUE; put(24864) = BAD_VALUE; put(-1) = BAD_VALUE", bits);
        new Twins("load: BAD_TEXT before NO_SUCH", BUSY + "; put(\",f1,\") = 19").unchangedBy("load() = BAD_TEXT");
        new Twins("load: NO_SUCH", BUSY + "; put(\",d1\") = 18").unchangedBy("load() = NO_SUCH");
        new Twins("load: NO_SUCH, the first one is named last", "addFlow(1) = 0; save(0) = 0; put(\"a1*9,a3@\") = 8; put(\"5*9,b1\") = 14").unchangedBy("load() = NO_SUCH");
        new Twins("load: a pad that is empty", "addFlow(1) = 0; offer(0, 1, 0) = 0").unchangedBy("load() = BAD_TEXT");
        String almost = "addFlow(1) = 0; save(1) = 0; put(\"a1,a1,a1\") = 8; put(\",a1,a1,a\") = 16; put(\"1,a1,a1,\") = 24; put(\"a1,a1,a1\") = 32; put(\",a1,a1,a\") = 40; put(\"1,a1,a1,\") = 48; put(\"a1,a1,a1\") = 56;"
            + " put(\",a1,a1,a\") = 64; put(\"1,a1,a1,\") = 72; put(\"a1,a1\") = 77";
        new Twins("put: BAD_VALUE before TOO_MANY, and nothing of what does not fit", almost)
            .unchangedBy("put(\",b1*\") = TOO_MANY; put(\",b1*9,c1\") = TOO_MANY; put(" + (Script.characters("a2,a3,a4") & ~255L) + ") = BAD_VALUE; put(" + (Script.characters(",a3,a4") << 8 | 127) + ") = BAD_VALUE; put(0) = BAD_VALUE");
    }

    private static void busyTime() {
        new Twins("refused by a link in use", BUSY)
            .unchangedBy("advance(0) = BAD_VALUE; advance(-1) = BAD_VALUE; advance(2001) = BAD_VALUE; awaitDelivery(0) = BAD_VALUE; awaitDelivery(-1) = BAD_VALUE; awaitDelivery(2001) = BAD_VALUE")
            .unchangedBy("save(-1) = BAD_VALUE; save(2) = BAD_VALUE; restore(-1) = BAD_VALUE; restore(2) = BAD_VALUE");
        new Twins("refused by an empty slot", "addFlow(1) = 0; addFlow(2) = 1; offer(0, 9, 0) = 0; offer(1, 9, 50) = 1; save(1) = 0; advance(3) = 3; put(\"b1\") = 2").unchangedBy("restore(0) = NOT_POSSIBLE; restore(2) = BAD_VALUE");
    }

    private static void busyForecasts() {
        new Twins("refused by a link in use", BUSY)
            .unchangedBy("forecast(7, 1) = NO_SUCH; forecast(-1, 1) = NO_SUCH; forecast(7, 0) = NO_SUCH; forecast(0, 0) = BAD_VALUE; forecast(0, 2001) = BAD_VALUE; forecast(5, 0) = BAD_VALUE; forecast(5, 2001) = BAD_VALUE")
            .unchangedBy("leastWeight(7, 1) = NO_SUCH; leastWeight(7, 0) = NO_SUCH; leastWeight(0, 0) = BAD_VALUE; leastWeight(5, 0) = BAD_VALUE; leastWeight(5, 1001) = BAD_VALUE; leastWeight(0, 1) = NOT_POSSIBLE")
            .unchangedBy("leastWeight(1, 1000) = NOT_POSSIBLE; leastWeight(2, 1000) = NOT_POSSIBLE; bestSplit(3, 0, 1, 1, 1) = NO_SUCH; bestSplit(3, -1, 1, 1, 1) = NO_SUCH; bestSplit(0, -1, 1, 1, 1) = BAD_VALUE")
            .unchangedBy("bestSplit(0, 1001, 1, 1, 1) = BAD_VALUE; bestSplit(0, 0, 0, 1, 1) = BAD_VALUE; bestSplit(0, 0, 501, 1, 1) = BAD_VALUE; bestSplit(0, 0, 1, 0, 1) = BAD_VALUE; bestSplit(0, 0, 1, 7, 1) = BAD_VALUE")
            .unchangedBy("bestSplit(0, 0, 1, 1, 0) = BAD_VALUE; bestSplit(0, 0, 1, 1, 1001) = BAD_VALUE; bestSplit(0, 501, 500, 2, 1) = BAD_VALUE");
        new Twins("refused without packets in queues", "addFlow(1) = 0; addFlow(2) = 1; set(1, SPLIT, 1) = 0; rule(JOINING, 50) = 1; offer(0, 1, 0) = 0; cancel(0) = 0; offer(1, 2, 9) = 1; advance(7) = 7; packet(1, 4) = SENT; save(1) = 7; put(\"b1\") = 2").unchangedBy("bestSplit(0, 1, 1, 6, 1000) = NOT_POSSIBLE; bestSplit(0, 0, 0, 1, 1) = BAD_VALUE; bestSplit(2, 0, 1, 1, 1) = NO_SUCH; leastWeight(0, 9) = NOT_POSSIBLE; leastWeight(1, 9) = NOT_POSSIBLE");
    }

    private static void onlyAsked() {
        new Twins("only asked of a link in use", BUSY)
            .unchangedBy("packet(3, 9) = 0; packet(4, 4) = WAITING; start(4) = 2*UNIT; fault() = NONE; flow(1, 7) = 10; flow(0, 6) = 4; amount(0, 1) = 2*UNIT+960960; amount(1, 2) = 0; virtualTime() = 5*360360; link(14) = 1; link(0) = 28; piece(0, 4) = 1; piece(9, 0) = NONE")
            .unchangedBy("apart(0, 1) = 600600; forecast(3, 2000) = 2; forecast(5, 1) = NONE; forecast(2, 2000) = NONE; forecast(0, 2000) = 0; leastWeight(5, 1000) = 1; leastWeight(4, 1) = NONE; bestSplit(0, 1, 2, 6, 1000) = 5; bestSplit(1, 0, 1, 1, 1) = 0; bestSplit(2, 1, 1, 6, 3) = 1");
    }

    private static void full() {
        new Twins("refused by a link that is full", FULL)
            .unchangedBy("addFlow(1) = TOO_MANY; addFlow(16) = TOO_MANY; addFlow(0) = BAD_VALUE; addFlow(17) = BAD_VALUE; offer(0, 1, 0) = TOO_MANY; offer(5, 1, 0) = TOO_MANY; offer(5, 0, 0) = BAD_VALUE; offer(5, 1, 10000) = BAD_VALUE; offer(6, 1, 0) = NO_SUCH")
            .unchangedBy("offer(6, 0, 0) = NO_SUCH; put(\"a\") = TOO_MANY; put(\"12345678\") = TOO_MANY; put(0) = BAD_VALUE; put(32) = BAD_VALUE; load() = BAD_TEXT; cancel(0) = NOT_POSSIBLE; cancel(120) = NO_SUCH; packet(120, 0) = NO_SUCH; flow(6, 0) = NO_SUCH")
            .unchangedBy("piece(9, 0) = NONE; piece(10, 5) = BAD_VALUE; leastWeight(0, 1001) = BAD_VALUE; forecast(119, 2001) = BAD_VALUE; bestSplit(6, 0, 1, 1, 1) = NO_SUCH; bestSplit(0, 1, 500, 3, 1) = BAD_VALUE; forecast(1, 2000) = NONE; leastWeight(20, 1000) = NONE")
            .unchangedBy("bestSplit(0, 1, 100, 6, 1000) = 1; restore(2) = BAD_VALUE; save(2) = BAD_VALUE");
    }

    /** Packet 0 waits while those of the other flow, always urgent, are sent, until 120 packets are known. */
    private static void wouldForget() {
        StringBuilder lead = new StringBuilder("addFlow(1) = 0; addFlow(1) = 1; rule(HEADER, 0) = 2; rule(MARGIN, 1000) = 10; offer(0, 5, 0) = 0");
        for (int round = 1; round <= 6; round++) {
            lead.append("; put(\"b1@1*9,b\") = 8; put(\"1@1*9\") = 13; load() = 18; advance(18) = ").append(18 * round);
        }
        lead.append("; put(\"b1@1*9,b\") = 8; put(\"1@1*2\") = 13; load() = 11; link(6) = 120; packet(0, 4) = WAITING; save(0) = 108; advance(3) = 111; save(1) = 111; put(\"b1\") = 2");
        new Twins("refused because a packet that waits would be forgotten", lead.toString())
            .unchangedBy("offer(0, 1, 0) = TOO_MANY; offer(1, 1, 0) = TOO_MANY; offer(1, 2001, 0) = BAD_VALUE; offer(1, 1, -1) = BAD_VALUE; offer(2, 1, 0) = NO_SUCH; cancel(120) = NO_SUCH");
        new Twins("refused because they are not known any more", lead + "; cancel(0) = 0; offer(0, 1, 0) = 120")
            .unchangedBy("cancel(0) = NO_SUCH; packet(0, 0) = NO_SUCH; packet(0, 10) = NO_SUCH; start(0) = GONE+NO_SUCH; forecast(0, 1) = NO_SUCH; forecast(0, 0) = NO_SUCH; leastWeight(0, 1) = NO_SUCH; leastWeight(0, 0) = NO_SUCH; piece(0, 0) = NONE");
    }

    /** Five hundred calls go by until a late time, so that few are left for questions. */
    private static void lastTime() {
        StringBuilder lead = new StringBuilder("addFlow(1) = 0; addFlow(1) = 1");
        for (int i = 1; i < 500; i++) {
            lead.append("; advance(2000) = ").append(2000 * i);
        }
        lead.append("; offer(0, 9, 0) = 0; offer(1, 2000, 5) = 1; put(\"b1\") = 2; advance(1) = 998001; save(1) = 998001");
        new Twins("refused at a late time", lead.toString(), "", "restore(1)").unchangedBy("advance(2000) = NOT_POSSIBLE; awaitDelivery(2000) = NOT_POSSIBLE");
        StringBuilder last = new StringBuilder("addFlow(1) = 0; advance(1999) = 1999");
        for (int i = 1; i < 500; i++) {
            last.append("; advance(2000) = ").append(1999 + 2000 * i);
        }
        new Twins("refused at the last time but one", last.toString(), "", "advance(1)")
            .unchangedBy("advance(2) = NOT_POSSIBLE; advance(2001) = BAD_VALUE; awaitDelivery(2) = NOT_POSSIBLE; awaitDelivery(2001) = BAD_VALUE");
    }
}
