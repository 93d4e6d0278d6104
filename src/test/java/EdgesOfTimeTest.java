/** Boundary cases that the promises 13 and 14 name: advance, awaitDelivery. */
public final class EdgesOfTimeTest {
    public static void main(String[] args) {
        advance();
        advanceToTheEnd();
        awaitDelivery();
        awaitNothing();
        awaitToTheEnd();
        Script.end();
    }

    private static void advance() {
        Edge.run("13", "`ticks`: 1 to 2000", "advance(1) = 1; link(0) = 1; advance(1999) = 2000; advance(2000) = 4000; link(0) = 4000");
        Edge.run("13", "BAD_VALUE if ticks is out of range",
            "advance(0) = BAD_VALUE; advance(-1) = BAD_VALUE; advance(2001) = BAD_VALUE; advance(LEAST_INT) = BAD_VALUE; advance(GREATEST_INT) = BAD_VALUE; advance(-2000) = BAD_VALUE; link(0) = 0; advance(2000) = 2000");
        Edge.run("13", "Returns the time then", "addFlow(1) = 0; offer(0, 1, 0) = 0; advance(1) = 1; link(12) = 0; advance(2000) = 2001; link(12) = 3; flow(0, 11) = 1998");
    }

    /** A link at a late time; only few calls are left then. */
    private static Script at(String promise, String sentence, String first, int time) {
        Script script = Edge.of(promise, sentence).calls(first);
        int passed = time % 2000;
        if (passed > 0) {
            script.calls("advance(" + passed + ") = " + passed);
        }
        while (passed < time) {
            passed += 2000;
            script.calls("advance(2000) = " + passed);
        }
        return script;
    }

    private static void advanceToTheEnd() {
        String sentence = "NOT_POSSIBLE if the time would be greater than 1000000";
        at("13", sentence, "rule(HEADER, 0) = 2", 999999).calls("advance(2) = NOT_POSSIBLE; advance(2000) = NOT_POSSIBLE; link(0) = 999999; advance(1) = 1000000; advance(1) = NOT_POSSIBLE; link(0) = 1000000");
        at("13", sentence, "rule(HEADER, 0) = 2", 998000).calls("advance(2000) = 1000000; advance(1) = NOT_POSSIBLE; advance(2000) = NOT_POSSIBLE; link(0) = 1000000");
        at("13", sentence, "rule(HEADER, 0) = 2", 998001).calls("advance(2000) = NOT_POSSIBLE; link(0) = 998001; advance(1999) = 1000000");
        at("13", "BAD_VALUE if ticks is out of range; NOT_POSSIBLE if the time would be greater than 1000000", "rule(HEADER, 0) = 2", 999999)
            .calls("advance(2001) = BAD_VALUE; advance(0) = BAD_VALUE; advance(GREATEST_INT) = BAD_VALUE; advance(-1) = BAD_VALUE; advance(2) = NOT_POSSIBLE; link(0) = 999999");
    }

    private static void awaitDelivery() {
        Edge.run("14", "`most`: 1 to 2000",
            "addFlow(1) = 0; rule(HEADER, 0) = 2; offer(0, 1999, 0) = 0; awaitDelivery(1) = NONE; link(0) = 1; awaitDelivery(1999) = 0; link(0) = 2000; offer(0, 1999, 0) = 1; awaitDelivery(2000) = 1; link(0) = 4000",
            "offer(0, 2000, 0) = 2; awaitDelivery(2000) = NONE; link(0) = 6000; awaitDelivery(1) = 2; link(0) = 6001");
        Edge.run("14", "BAD_VALUE if most is out of range",
            "awaitDelivery(0) = BAD_VALUE; awaitDelivery(-1) = BAD_VALUE; awaitDelivery(2001) = BAD_VALUE; awaitDelivery(LEAST_INT) = BAD_VALUE; awaitDelivery(GREATEST_INT) = BAD_VALUE; link(0) = 0",
            "addFlow(1) = 0; offer(0, 1, 0) = 0; awaitDelivery(0) = BAD_VALUE; awaitDelivery(2001) = BAD_VALUE; link(0) = 0; link(7) = NONE; awaitDelivery(2000) = 0");
        Edge.run("14", "Makes ticks until a packet is DELIVERED by one of them, at most some ticks.",
            "addFlow(1) = 0; rule(HEADER, 0) = 2; offer(0, 1, 0) = 0; offer(0, 1, 0) = 1; awaitDelivery(2) = 0; link(0) = 2; awaitDelivery(1) = 1; link(0) = 3; awaitDelivery(1) = NONE; link(0) = 4",
            "offer(0, 1, 0) = 2; awaitDelivery(1) = NONE; link(0) = 5; packet(2, 4) = SENDING; awaitDelivery(2000) = 2; link(0) = 6; link(7) = NONE");
        // Two packets are joined in one tick, and in that tick a third one of a single piece ends.
        Edge.run("14", "Returns the lowest number of the packets that were DELIVERED by the last of these ticks",
            "addFlow(1) = 0; addFlow(1) = 1; rule(HEADER, 0) = 2; rule(JOINING, 50) = 1; set(0, SPLIT, 1) = 0; offer(0, 2, 0) = 0; offer(0, 2, 0) = 1; advance(5) = 5; packet(0, 4) = SENT; packet(1, 4) = SENT",
            "offer(1, 1, 0) = 2; advance(1) = 6; packet(2, 4) = SENDING; rule(JOINING, 0) = 50; awaitDelivery(9) = 0; link(0) = 7; packet(0, 8) = 7; packet(1, 8) = 7; packet(2, 8) = 7; awaitDelivery(9) = NONE");
        Edge.run("14", "Returns the lowest number of the packets that were DELIVERED by the last of these ticks",
            "addFlow(1) = 0; addFlow(1) = 1; rule(HEADER, 0) = 2; rule(JOINING, 50) = 1; set(0, SPLIT, 1) = 0; offer(1, 5, 0) = 0; offer(0, 2, 0) = 1; rule(PROMOTION, 0) = 1; advance(2) = 2; link(7) = 0",
            "advance(5) = 7; packet(0, 4) = DELIVERED; offer(1, 2, 0) = 2; advance(1) = 8; packet(1, 4) = SENT; link(7) = 2; offer(1, 1, 0) = 3; rule(JOINING, 2) = 50; awaitDelivery(1) = NONE; awaitDelivery(1) = 1; link(0) = 10; packet(2, 8) = 10");
    }

    private static void awaitNothing() {
        Edge.run("14", "NONE if there is none after the greatest number of ticks",
            "awaitDelivery(1) = NONE; link(0) = 1; awaitDelivery(2000) = NONE; link(0) = 2001; addFlow(1) = 0; awaitDelivery(2000) = NONE; link(0) = 4001; offer(0, 1, 0) = 0; awaitDelivery(3) = NONE; link(0) = 4004",
            "awaitDelivery(1) = 0; link(0) = 4005; awaitDelivery(5) = NONE; link(0) = 4010; offer(0, 1, 0) = 1; cancel(1) = 0; awaitDelivery(10) = NONE; link(0) = 4020");
        Edge.run("14", "NONE if there is none after the greatest number of ticks",
            "addFlow(1) = 0; rule(HEADER, 0) = 2; rule(JOINING, 50) = 1; set(0, SPLIT, 1) = 0; offer(0, 2, 0) = 0; awaitDelivery(52) = NONE; packet(0, 4) = SENT; awaitDelivery(1) = 0; link(0) = 53");
    }

    private static void awaitToTheEnd() {
        String sentence = "NOT_POSSIBLE if the time could become greater than 1000000";
        at("14", sentence, "addFlow(1) = 0", 999990).calls("offer(0, 1, 0) = 0; awaitDelivery(11) = NOT_POSSIBLE; awaitDelivery(2000) = NOT_POSSIBLE; link(0) = 999990; awaitDelivery(10) = 0; link(0) = 999994; awaitDelivery(7) = NOT_POSSIBLE")
            .calls("awaitDelivery(6) = NONE; link(0) = 1000000; awaitDelivery(1) = NOT_POSSIBLE");
        at("14", sentence, "rule(HEADER, 0) = 2", 998000).calls("awaitDelivery(2000) = NONE; link(0) = 1000000; awaitDelivery(2000) = NOT_POSSIBLE");
        at("14", sentence, "rule(HEADER, 0) = 2", 998001).calls("awaitDelivery(2000) = NOT_POSSIBLE; link(0) = 998001; awaitDelivery(1999) = NONE; link(0) = 1000000");
        at("14", "BAD_VALUE if most is out of range; NOT_POSSIBLE if the time could become greater than 1000000", "rule(HEADER, 0) = 2", 999999)
            .calls("awaitDelivery(2001) = BAD_VALUE; awaitDelivery(0) = BAD_VALUE; awaitDelivery(GREATEST_INT) = BAD_VALUE; awaitDelivery(2) = NOT_POSSIBLE; link(0) = 999999; awaitDelivery(1) = NONE");
    }
}
