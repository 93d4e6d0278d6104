/** Boundary cases that the promises 21 to 23 name: forecast, leastWeight, bestSplit. */
public final class EdgesOfForecastsTest {
    public static void main(String[] args) {
        forecast();
        forecastErrors();
        forecastNearTheEnd();
        leastWeight();
        leastWeightErrors();
        bestSplit();
        bestSplitRanges();
        bestSplitErrors();
        Script.end();
    }

    private static void forecast() {
        Edge.run("21", "the greatest number of ticks, 1 to 2000",
            "addFlow(1) = 0; rule(HEADER, 0) = 2; offer(0, 1999, 0) = 0; forecast(0, 2000) = 2000; forecast(0, 1999) = NONE; forecast(0, 1) = NONE; forecast(0, 0) = BAD_VALUE; forecast(0, 2001) = BAD_VALUE; advance(1999) = 1999; forecast(0, 1) = 1",
            "forecast(0, 2000) = 1; advance(1) = 2000; forecast(0, 1) = 0; offer(0, 2000, 0) = 1; forecast(1, 2000) = NONE; advance(1) = 2001; forecast(1, 2000) = 2000; forecast(1, 1999) = NONE");
        Edge.run("21", "Returns the number of ticks from now, 0 if it is DELIVERED",
            "addFlow(1) = 0; rule(HEADER, 0) = 2; offer(0, 1, 0) = 0; forecast(0, 2) = 2; advance(1) = 1; forecast(0, 2) = 1; advance(1) = 2; packet(0, 4) = DELIVERED; forecast(0, 1) = 0; forecast(0, 2000) = 0; advance(500) = 502; forecast(0, 1) = 0");
        Edge.run("21", "NONE if it is not DELIVERED after most ticks",
            "addFlow(1) = 0; offer(0, 1, 0) = 0; offer(0, 1, 0) = 1; forecast(0, 3) = NONE; forecast(0, 4) = 4; forecast(1, 6) = NONE; forecast(1, 7) = 7; cancel(0) = 1; forecast(0, 2000) = NONE; forecast(1, 3) = NONE; forecast(1, 4) = 4");
        Edge.run("21", "Forecasts when a packet is DELIVERED, if nothing but time goes on.",
            "addFlow(1) = 0; rule(HEADER, 0) = 2; rule(JOINING, 50) = 1; set(0, SPLIT, 1) = 0; offer(0, 2, 0) = 0; forecast(0, 52) = NONE; forecast(0, 53) = 53; advance(3) = 3; packet(0, 4) = SENT; forecast(0, 49) = NONE; forecast(0, 50) = 50",
            "rule(JOINING, 0) = 50; forecast(0, 1) = 1; packet(0, 4) = SENT; rule(JOINING, 1) = 0; forecast(0, 1) = 1; link(0) = 3");
    }

    private static void forecastErrors() {
        Script known = Edge.of("21", "NO_SUCH if there is no such packet, or it is not known any more; BAD_VALUE if most is out of range")
            .calls("forecast(0, 1) = NO_SUCH; forecast(0, 0) = NO_SUCH; forecast(-1, 1) = NO_SUCH; addFlow(1) = 0; addFlow(1) = 1; forecast(LEAST_INT, 2001) = NO_SUCH; forecast(GREATEST_INT, 1) = NO_SUCH");
        EdgesOfPacketsTest.fill(known, 0, 119);
        known.calls("forecast(0, 1) = NONE; forecast(0, 0) = BAD_VALUE; forecast(0, 2001) = BAD_VALUE; forecast(119, 1) = NONE; forecast(120, 1) = NO_SUCH; forecast(120, 0) = NO_SUCH; offer(1, 1, 0) = 120; forecast(0, 1) = NO_SUCH")
            .calls("forecast(0, 0) = NO_SUCH; forecast(1, 1) = NONE; forecast(1, -1) = BAD_VALUE; forecast(120, 4) = 4; forecast(120, 0) = BAD_VALUE; forecast(121, 4) = NO_SUCH; forecast(120, LEAST_INT) = BAD_VALUE; forecast(120, GREATEST_INT) = BAD_VALUE")
            .calls("advance(4) = 4; forecast(120, 1) = 0; forecast(120, 0) = BAD_VALUE; forecast(120, 2001) = BAD_VALUE");
        // All places of packets and pieces taken, and the numbers gone round.
        Script round = Edge.of("21", "Forecasts when a packet is DELIVERED").calls("addFlow(1) = 0; addFlow(1) = 1; rule(HEADER, 0) = 2; set(0, SPLIT, 1) = 0");
        EdgesOfPacketsTest.fill(round, 0, 118);
        round.calls("offer(0, 70, 0) = 119; offer(0, 70, 0) = 120; offer(0, 5, 0) = 121; forecast(119, 100) = 72; forecast(120, 200) = 142; forecast(121, 200) = 147; leastWeight(121, 147) = 1; leastWeight(121, 146) = NONE; advance(65) = 65")
            .calls("piece(0, 3) = NONE; piece(4, 3) = 6; piece(63, 3) = 65; link(15) = 64; forecast(121, 200) = 82; awaitDelivery(100) = 119; link(0) = 72; awaitDelivery(100) = 120; link(0) = 142; awaitDelivery(100) = 121; link(0) = 147");
    }

    /** No error is named for forecasts that look beyond the last time. */
    private static void forecastNearTheEnd() {
        Script late = Edge.of("21", "Returns the number of ticks from now").calls("addFlow(1) = 0; offer(0, 1, 0) = 0");
        for (int i = 1; i <= 500; i++) {
            late.calls("advance(2000) = " + 2000 * i);
        }
        late.calls("advance(1) = NOT_POSSIBLE; offer(0, 1, 9999) = 1; packet(1, 3) = 1009999; forecast(1, 2000) = 4; forecast(1, 3) = NONE; leastWeight(1, 4) = 1; bestSplit(0, 1, 1, 2, 4) = 1; link(0) = 1000000; packet(1, 4) = WAITING");
    }

    private static void leastWeight() {
        Edge.run("22", "`ticks`: 1 to 1000",
            "addFlow(5) = 0; rule(HEADER, 0) = 2; offer(0, 999, 0) = 0; offer(0, 1, 0) = 1; leastWeight(0, 1000) = 1; leastWeight(0, 999) = NONE; leastWeight(0, 1) = NONE; leastWeight(1, 1000) = NONE; leastWeight(0, 0) = BAD_VALUE; leastWeight(0, 1001) = BAD_VALUE",
            "advance(1) = 1; leastWeight(1, 1000) = 1; leastWeight(1, 999) = NONE; advance(998) = 999; leastWeight(0, 1) = 1; leastWeight(1, 1) = NONE; leastWeight(1, 2) = 1; flow(0, 0) = 5");
        Edge.run("22", "if the weight of its flow were changed to it now",
            "addFlow(16) = 0; addFlow(1) = 1; rule(HEADER, 0) = 2; rule(JOINING, 0) = 1; set(1, SPLIT, 10) = 0; offer(1, 20, 0) = 0; offer(0, 16, 0) = 1; offer(0, 16, 0) = 2; start(2) = UNIT; advance(17) = 17; link(7) = 0",
            "leastWeight(0, 20) = 11; leastWeight(0, 35) = 11; leastWeight(0, 19) = NONE; leastWeight(0, 36) = 1; leastWeight(2, 26) = 1; leastWeight(2, 25) = NONE; flow(1, 0) = 1; flow(0, 0) = 16; start(2) = UNIT; amount(1, 0) = 20*UNIT");
        // Flow 0 sends pieces of 10 at the tags 0, 1/w and so on; flow 1 has to come before the second one.
        for (int weight = 1; weight <= 16; weight++) {
            Script script = Edge.of("22", "Returns the least weight, 1 to 16, with which it is DELIVERED after so many ticks or earlier; NONE if there is none")
                .calls("addFlow(" + weight + ") = 0; addFlow(1) = 1; rule(HEADER, 0) = 2; rule(JOINING, 0) = 1; set(0, SPLIT, 10) = 0; set(1, SPLIT, 10) = 0; offer(0, 20, 0) = 0; offer(1, 20, 0) = 1");
            // With a greater weight than that of flow 0 the second piece of flow 1 goes before that of flow 0.
            String least = weight < 16 ? "" + (weight + 1) : "NONE";
            script.calls("leastWeight(1, 31) = " + least + "; leastWeight(1, 30) = NONE; leastWeight(1, 40) = " + least + "; leastWeight(1, 41) = 1; leastWeight(1, 1000) = 1; flow(1, 0) = 1");
        }
    }

    private static void leastWeightErrors() {
        Script known = Edge.of("22", "NO_SUCH if there is no such packet, or it is not known any more; BAD_VALUE if ticks is out of range; NOT_POSSIBLE if it is not WAITING or SENDING")
            .calls("leastWeight(0, 1) = NO_SUCH; leastWeight(0, 0) = NO_SUCH; leastWeight(-1, 1001) = NO_SUCH; addFlow(1) = 0; addFlow(1) = 1; leastWeight(LEAST_INT, 1) = NO_SUCH; leastWeight(GREATEST_INT, 0) = NO_SUCH");
        EdgesOfPacketsTest.fill(known, 0, 119);
        known.calls("leastWeight(0, 1) = NOT_POSSIBLE; leastWeight(0, 0) = BAD_VALUE; leastWeight(0, 1001) = BAD_VALUE; leastWeight(119, 1000) = NOT_POSSIBLE; leastWeight(120, 1) = NO_SUCH; offer(1, 1, 0) = 120; leastWeight(0, 1) = NO_SUCH; leastWeight(0, 0) = NO_SUCH")
            .calls("leastWeight(1, 1) = NOT_POSSIBLE; leastWeight(1, -1) = BAD_VALUE; leastWeight(120, 4) = 1; leastWeight(120, LEAST_INT) = BAD_VALUE; leastWeight(120, GREATEST_INT) = BAD_VALUE; leastWeight(121, 4) = NO_SUCH");
        Edge.run("22", "NOT_POSSIBLE if it is not WAITING or SENDING",
            "addFlow(1) = 0; rule(HEADER, 0) = 2; rule(JOINING, 9) = 1; set(0, SPLIT, 1) = 0; offer(0, 2, 0) = 0; offer(0, 2, 0) = 1; cancel(1) = 1; leastWeight(1, 1000) = NOT_POSSIBLE; leastWeight(0, 12) = 1; advance(1) = 1; packet(0, 4) = SENDING",
            "leastWeight(0, 11) = 1; leastWeight(0, 10) = NONE; advance(2) = 3; packet(0, 4) = SENT; leastWeight(0, 1000) = NOT_POSSIBLE; leastWeight(0, 0) = BAD_VALUE; leastWeight(0, 1001) = BAD_VALUE; advance(9) = 12; packet(0, 4) = DELIVERED",
            "leastWeight(0, 1) = NOT_POSSIBLE; leastWeight(0, 1001) = BAD_VALUE");
        Edge.run("22", "NOT_POSSIBLE if it is not WAITING or SENDING",
            "addFlow(1) = 0; addFlow(1) = 1; rule(HEADER, 0) = 2; set(0, SPLIT, 1) = 0; offer(0, 2, 0) = 0; offer(1, 1, 0) = 1; advance(2) = 2; packet(0, 4) = WAITING; packet(0, 5) = 1; leastWeight(0, 3) = 1; leastWeight(0, 2) = NONE");
    }

    private static void bestSplit() {
        // With HEADER 2 and JOINING 1 a packet of 10 takes 13 ticks as one piece, 16 as two pieces, 18 as three of them.
        String least = "Returns the value; of several, the first one";
        Edge.run("23", least,
            "addFlow(1) = 0; offer(0, 10, 0) = 0; bestSplit(0, 4, 1, 6, 1000) = 5; bestSplit(0, 4, 3, 3, 1000) = 10; bestSplit(0, 5, 1, 5, 1000) = 5; bestSplit(0, 0, 1, 6, 1000) = 0; bestSplit(0, 10, 1, 6, 1000) = 10; bestSplit(0, 1000, 1, 1, 1000) = 1000",
            "bestSplit(0, 9, 1, 2, 1000) = 10; bestSplit(0, 0, 500, 3, 1000) = 0; bestSplit(0, 500, 500, 2, 1000) = 500; flow(0, 2) = 0");
        String within = "(With a value with which some of these packets are not DELIVERED within these ticks, the delay counts as greater than any other; if that is so with all values, the first one is returned.)";
        Edge.run("23", within,
            "addFlow(1) = 0; offer(0, 10, 0) = 0; bestSplit(0, 5, 5, 2, 13) = 10; bestSplit(0, 5, 5, 2, 12) = 5; bestSplit(0, 4, 1, 2, 16) = 5; bestSplit(0, 4, 1, 2, 15) = 4; bestSplit(0, 4, 1, 2, 1) = 4; bestSplit(0, 5, 4, 2, 16) = 5; bestSplit(0, 4, 1, 2, 17) = 5");
        Edge.run("23", within,
            "addFlow(1) = 0; addFlow(1) = 1; rule(HEADER, 0) = 2; rule(JOINING, 0) = 1; offer(0, 10, 0) = 0; offer(1, 5, 0) = 1; bestSplit(0, 5, 5, 2, 16) = 5; bestSplit(0, 5, 5, 2, 15) = 5; offer(1, 2000, 0) = 2; bestSplit(0, 5, 5, 2, 1000) = 5; bestSplit(0, 10, 5, 2, 1000) = 10");
        Edge.run("23", "the greatest delay of the packets that are in queues now, and DELIVERED within some ticks",
            "addFlow(1) = 0; addFlow(1) = 1; rule(HEADER, 0) = 2; rule(JOINING, 9) = 1; set(0, SPLIT, 1) = 0; offer(0, 2, 0) = 0; advance(3) = 3; packet(0, 4) = SENT; bestSplit(0, 1, 1, 2, 100) = NOT_POSSIBLE; offer(0, 2, 0) = 1; bestSplit(0, 1, 1, 2, 100) = 2",
            "bestSplit(0, 1, 1, 2, 3) = 2; bestSplit(0, 1, 1, 2, 2) = 1; bestSplit(1, 1, 1, 2, 12) = 1; cancel(1) = 0; bestSplit(0, 1, 1, 2, 100) = NOT_POSSIBLE");
        Edge.run("23", "`ticks`: 1 to 1000",
            "addFlow(1) = 0; rule(HEADER, 0) = 2; rule(JOINING, 1) = 1; offer(0, 999, 0) = 0; bestSplit(0, 500, 499, 2, 1000) = 999; bestSplit(0, 500, 499, 2, 999) = 500; bestSplit(0, 500, 499, 2, 0) = BAD_VALUE; bestSplit(0, 500, 499, 2, 1001) = BAD_VALUE",
            "advance(999) = 999; bestSplit(0, 500, 499, 2, 1) = 500; advance(1) = 1000; bestSplit(0, 500, 499, 2, 1) = NOT_POSSIBLE");
    }

    private static void bestSplitRanges() {
        String bare = "addFlow(1) = 0; offer(0, 1, 0) = 0";
        Edge.run("23", "`first`: 0 to 1000", bare,
            "bestSplit(0, -1, 1, 1, 1) = BAD_VALUE; bestSplit(0, 0, 1, 1, 1) = 0; bestSplit(0, 1000, 1, 1, 1) = 1000; bestSplit(0, 1001, 1, 1, 1) = BAD_VALUE; bestSplit(0, LEAST_INT, 1, 1, 1) = BAD_VALUE; bestSplit(0, GREATEST_INT, 500, 6, 1) = BAD_VALUE");
        Edge.run("23", "`step`: 1 to 500; the last value must be at most 1000", bare,
            "bestSplit(0, 0, 0, 1, 1) = BAD_VALUE; bestSplit(0, 0, 1, 1, 1) = 0; bestSplit(0, 0, 500, 1, 1) = 0; bestSplit(0, 0, 501, 1, 1) = BAD_VALUE; bestSplit(0, 0, -1, 1, 1) = BAD_VALUE; bestSplit(0, 0, LEAST_INT, 2, 1) = BAD_VALUE",
            "bestSplit(0, 0, GREATEST_INT, 2, 1) = BAD_VALUE; bestSplit(0, 0, 500, 3, 1) = 0; bestSplit(0, 1, 500, 3, 1) = BAD_VALUE; bestSplit(0, 0, 200, 6, 1) = 0; bestSplit(0, 0, 201, 6, 1) = BAD_VALUE; bestSplit(0, 1, 200, 6, 1) = BAD_VALUE",
            "bestSplit(0, 500, 500, 2, 1) = 500; bestSplit(0, 501, 500, 2, 1) = BAD_VALUE; bestSplit(0, 999, 1, 2, 1) = 999; bestSplit(0, 1000, 1, 2, 1) = BAD_VALUE; bestSplit(0, 1000, 500, 1, 1) = 1000; bestSplit(0, 995, 1, 6, 1) = 995; bestSplit(0, 996, 1, 6, 1) = BAD_VALUE");
        Edge.run("23", "`count`: 1 to 6: the values are first, first + step, and so on, so many", bare,
            "bestSplit(0, 0, 1, 0, 1) = BAD_VALUE; bestSplit(0, 0, 1, 1, 1) = 0; bestSplit(0, 0, 1, 6, 1) = 0; bestSplit(0, 0, 1, 7, 1) = BAD_VALUE; bestSplit(0, 0, 1, -1, 1) = BAD_VALUE; bestSplit(0, 0, 1, LEAST_INT, 1) = BAD_VALUE; bestSplit(0, 0, 1, GREATEST_INT, 1) = BAD_VALUE");
        // Of the values 5, 6 and so on, a packet of 10 is one piece with 10 alone, which is the sixth of them.
        Edge.run("23", "the values are first, first + step, and so on, so many",
            "addFlow(1) = 0; offer(0, 10, 0) = 0; bestSplit(0, 5, 1, 6, 100) = 10; bestSplit(0, 5, 1, 5, 100) = 5; bestSplit(0, 4, 1, 6, 100) = 5; bestSplit(0, 4, 6, 2, 100) = 10; bestSplit(0, 4, 6, 1, 100) = 4");
    }

    private static void bestSplitErrors() {
        Edge.run("23", "NO_SUCH if there is no such flow; BAD_VALUE if an argument is out of range; NOT_POSSIBLE if all queues are empty",
            "bestSplit(0, 0, 1, 1, 1) = NO_SUCH; bestSplit(0, -1, 0, 0, 0) = NO_SUCH; addFlow(1) = 0; bestSplit(-1, 0, 1, 1, 1) = NO_SUCH; bestSplit(1, 0, 1, 1, 1) = NO_SUCH; bestSplit(1, 1001, 501, 7, 1001) = NO_SUCH; bestSplit(LEAST_INT, 0, 1, 1, 1) = NO_SUCH",
            "bestSplit(GREATEST_INT, 0, 1, 1, 1) = NO_SUCH; bestSplit(0, -1, 1, 1, 1) = BAD_VALUE; bestSplit(0, 0, 0, 1, 1) = BAD_VALUE; bestSplit(0, 0, 1, 0, 1) = BAD_VALUE; bestSplit(0, 0, 1, 1, 0) = BAD_VALUE; bestSplit(0, 0, 1, 1, 1001) = BAD_VALUE",
            "bestSplit(0, 501, 500, 2, 1) = BAD_VALUE; bestSplit(0, 0, 1, 1, 1) = NOT_POSSIBLE; bestSplit(0, 500, 500, 2, 1000) = NOT_POSSIBLE; offer(0, 1, 0) = 0; bestSplit(0, 501, 500, 2, 1) = BAD_VALUE; bestSplit(1, 0, 1, 1, 1) = NO_SUCH");
        Edge.run("23", "NOT_POSSIBLE if all queues are empty",
            "addFlow(1) = 0; addFlow(1) = 1; addFlow(1) = 2; save(0) = 0; addFlow(1) = 3; addFlow(1) = 4; addFlow(1) = 5; bestSplit(5, 0, 1, 1, 9) = NOT_POSSIBLE; offer(5, 1, 0) = 0; bestSplit(0, 0, 1, 1, 9) = 0; offer(3, 1, 0) = 1; restore(0) = 0",
            "bestSplit(0, 0, 1, 1, 9) = NOT_POSSIBLE; link(14) = NONE; awaitDelivery(50) = NONE; link(12) = 0");
        Edge.run("23", "NOT_POSSIBLE if all queues are empty",
            "addFlow(1) = 0; addFlow(1) = 1; bestSplit(0, 0, 1, 1, 9) = NOT_POSSIBLE; offer(1, 1, 0) = 0; bestSplit(0, 0, 1, 1, 9) = 0; advance(1) = 1; packet(0, 4) = SENDING; bestSplit(0, 0, 1, 1, 9) = 0; advance(3) = 4; bestSplit(0, 0, 1, 1, 9) = NOT_POSSIBLE",
            "offer(1, 1, 0) = 1; bestSplit(0, 3, 1, 2, 9) = 3; cancel(1) = 0; bestSplit(0, 3, 1, 2, 9) = NOT_POSSIBLE; bestSplit(0, 3, 1, 7, 9) = BAD_VALUE");
    }
}
