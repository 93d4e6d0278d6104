/** Promises 21 to 23: forecast, leastWeight, bestSplit. */
public final class ForecastsTest {
    public static void main(String[] args) {
        forecast();
        leastWeight();
        bestSplit();
        bestSplitErrors();
        nothingChanges();
        Script.end();
    }

    private static void forecast() {
        Script.run("21: ticks from now",
            "addFlow(1) = 0; offer(0, 10, 0) = 0; offer(0, 5, 0) = 1; forecast(0, 13) = 13; forecast(0, 12) = NONE; forecast(0, 2000) = 13; forecast(1, 100) = 20; advance(3) = 3",
            "forecast(0, 100) = 10; forecast(1, 16) = NONE; forecast(1, 17) = 17; advance(10) = 13; forecast(0, 1) = 0; forecast(1, 100) = 7; awaitDelivery(100) = 1; link(0) = 20");
        Script.run("21: JOINING counts, and a SENT packet too",
            "addFlow(1) = 0; set(0, SPLIT, 4) = 0; rule(JOINING, 9) = 1; offer(0, 10, 0) = 0; forecast(0, 100) = 26; advance(17) = 17; packet(0, 4) = SENT; forecast(0, 100) = 9; forecast(0, 8) = NONE");
        Script.run("21: promotion counts",
            "addFlow(1) = 0; addFlow(1) = 1; offer(0, 50, 0) = 0; offer(0, 50, 0) = 1; offer(1, 5, 40) = 2; forecast(2, 2000) = 60; offer(1, 5, 1) = 3; forecast(3, 2000) = 67; forecast(1, 2000) = 119");
        Script.run("21: a CANCELED packet is never delivered", "addFlow(1) = 0; offer(0, 1, 0) = 0; cancel(0) = 0; forecast(0, 2000) = NONE");
        Script.run("21: errors, the packet is told first",
            "forecast(0, 0) = NO_SUCH; addFlow(1) = 0; offer(0, 1, 0) = 0; forecast(1, 5) = NO_SUCH; forecast(-1, 5) = NO_SUCH; forecast(LEAST_INT, 0) = NO_SUCH; forecast(GREATEST_INT, 0) = NO_SUCH",
            "forecast(0, 0) = BAD_VALUE; forecast(0, 2001) = BAD_VALUE; forecast(0, -1) = BAD_VALUE; forecast(0, LEAST_INT) = BAD_VALUE; forecast(0, GREATEST_INT) = BAD_VALUE",
            "advance(9) = 9; forecast(0, 1) = 0; forecast(0, 2000) = 0; forecast(0, 0) = BAD_VALUE; forecast(0, 2001) = BAD_VALUE");
    }

    private static void leastWeight() {
        Script.run("22: the least weight with which it is in time",
            "addFlow(4) = 0; addFlow(1) = 1; rule(HEADER, 0) = 2; set(0, SPLIT, 10) = 0; set(1, SPLIT, 10) = 0; offer(0, 40, 0) = 0; offer(1, 40, 0) = 1; leastWeight(1, 82) = 1",
            "leastWeight(1, 81) = 5; leastWeight(1, 72) = 5; leastWeight(1, 71) = 7; leastWeight(1, 62) = 7; leastWeight(1, 61) = 13; leastWeight(1, 52) = 13; leastWeight(1, 51) = NONE",
            "flow(1, 0) = 1");
        Script.run("22: the greatest weight",
            "addFlow(15) = 0; addFlow(2) = 1; rule(HEADER, 0) = 2; set(0, SPLIT, 10) = 0; set(1, SPLIT, 10) = 0; offer(0, 20, 0) = 0; offer(1, 20, 0) = 1; leastWeight(1, 32) = 16",
            "leastWeight(1, 31) = NONE; leastWeight(1, 42) = 1; advance(41) = 41; leastWeight(1, 1) = NOT_POSSIBLE");
        Script.run("22: the least number of ticks",
            "addFlow(1) = 0; rule(HEADER, 0) = 2; offer(0, 2, 0) = 0; leastWeight(0, 1) = NONE; advance(2) = 2; leastWeight(0, 1) = 1; forecast(0, 1) = 1");
        Script.run("22: in time up to the last tick",
            "addFlow(1) = 0; offer(0, 10, 0) = 0; leastWeight(0, 12) = NONE; leastWeight(0, 13) = 1; leastWeight(0, 1000) = 1; flow(0, 0) = 1");
        Script.run("22: errors",
            "leastWeight(0, 0) = NO_SUCH; addFlow(1) = 0; offer(0, 1, 0) = 0; leastWeight(1, 0) = NO_SUCH; leastWeight(-1, 5) = NO_SUCH; leastWeight(LEAST_INT, 5) = NO_SUCH",
            "leastWeight(GREATEST_INT, 5) = NO_SUCH; leastWeight(0, 0) = BAD_VALUE; leastWeight(0, 1001) = BAD_VALUE; leastWeight(0, -1) = BAD_VALUE; leastWeight(0, LEAST_INT) = BAD_VALUE",
            "leastWeight(0, GREATEST_INT) = BAD_VALUE; cancel(0) = 0; leastWeight(0, 5) = NOT_POSSIBLE; leastWeight(0, 0) = BAD_VALUE; offer(0, 1, 0) = 1; advance(1) = 1",
            "packet(1, 4) = SENDING; leastWeight(1, 3) = 1; leastWeight(1, 2) = NONE; advance(3) = 4; leastWeight(1, 5) = NOT_POSSIBLE; leastWeight(1, 1001) = BAD_VALUE");
        Script.run("22: not when SENT",
            "addFlow(1) = 0; set(0, SPLIT, 1) = 0; rule(JOINING, 9) = 1; offer(0, 2, 0) = 0; advance(7) = 7; packet(0, 4) = SENT; leastWeight(0, 100) = NOT_POSSIBLE; leastWeight(0, 0) = BAD_VALUE");
    }

    private static void bestSplit() {
        Script.run("23: the greatest delay of all packets in queues",
            "addFlow(1) = 0; addFlow(1) = 1; rule(HEADER, 1) = 2; rule(JOINING, 0) = 1; offer(0, 30, 0) = 0; offer(1, 30, 0) = 1; bestSplit(0, 5, 5, 6, 1000) = 30",
            "bestSplit(0, 10, 10, 2, 1000) = 20; bestSplit(0, 0, 10, 4, 1000) = 0; bestSplit(0, 30, 1, 3, 1000) = 30; flow(0, 2) = 0");
        Script.run("23: some packets not delivered within the ticks, with some or with all values",
            "addFlow(1) = 0; rule(JOINING, 0) = 1; offer(0, 10, 0) = 0; bestSplit(0, 2, 2, 5, 13) = 10; bestSplit(0, 2, 2, 5, 12) = 2; bestSplit(0, 5, 5, 2, 15) = 10; bestSplit(0, 5, 1, 6, 14) = 10",
            "bestSplit(0, 5, 1, 6, 12) = 5; bestSplit(0, 1000, 1, 1, 1) = 1000; bestSplit(0, 0, 500, 3, 1000) = 0");
        Script.run("23: packets that are not in queues now do not count",
            "addFlow(1) = 0; addFlow(1) = 1; rule(HEADER, 0) = 2; rule(JOINING, 50) = 1; set(0, SPLIT, 1) = 0; offer(0, 2, 0) = 0; advance(3) = 3; packet(0, 4) = SENT; offer(1, 4, 0) = 1",
            "bestSplit(1, 2, 2, 2, 5) = 4; bestSplit(1, 2, 2, 2, 4) = 2; advance(40) = 43; packet(1, 4) = DELIVERED; bestSplit(1, 2, 2, 2, 50) = NOT_POSSIBLE");
        Script.run("23: the delay counts from the offer, and a piece in work stays",
            "addFlow(1) = 0; addFlow(1) = 1; offer(0, 20, 0) = 0; advance(10) = 10; offer(1, 8, 0) = 1; bestSplit(1, 4, 4, 2, 100) = 8; bestSplit(0, 5, 15, 2, 100) = 5");
        Script.run("23: deadlines and splits of one flow decide about another",
            "addFlow(1) = 0; addFlow(1) = 1; rule(HEADER, 0) = 2; rule(MARGIN, 0) = 10; rule(JOINING, 0) = 1; advance(50) = 50; offer(0, 20, 0) = 0; offer(1, 1, 12) = 1; advance(1) = 51",
            "bestSplit(0, 4, 4, 5, 100) = 4; forecast(1, 100) = 21");
    }

    private static void bestSplitErrors() {
        Script.run("23: errors in their order",
            "bestSplit(0, -1, 0, 0, 0) = NO_SUCH; addFlow(1) = 0; bestSplit(1, 0, 1, 1, 1) = NO_SUCH; bestSplit(-1, 0, 1, 1, 1) = NO_SUCH; bestSplit(LEAST_INT, 0, 1, 1, 1) = NO_SUCH",
            "bestSplit(GREATEST_INT, 0, 1, 1, 1) = NO_SUCH; bestSplit(0, -1, 1, 1, 1) = BAD_VALUE; bestSplit(0, 1001, 1, 1, 1) = BAD_VALUE; bestSplit(0, 0, 0, 1, 1) = BAD_VALUE",
            "bestSplit(0, 0, 501, 1, 1) = BAD_VALUE; bestSplit(0, 0, 1, 0, 1) = BAD_VALUE; bestSplit(0, 0, 1, 7, 1) = BAD_VALUE; bestSplit(0, 0, 1, 1, 0) = BAD_VALUE",
            "bestSplit(0, 0, 1, 1, 1001) = BAD_VALUE; bestSplit(0, 1, 500, 3, 1) = BAD_VALUE; bestSplit(0, 0, 500, 4, 1) = BAD_VALUE; bestSplit(0, 1000, 1, 2, 1) = BAD_VALUE",
            "bestSplit(0, 0, 201, 6, 1) = BAD_VALUE; bestSplit(0, 0, 1, 1, 1) = NOT_POSSIBLE; bestSplit(0, 0, 200, 6, 1000) = NOT_POSSIBLE; bestSplit(0, 0, 500, 3, 1) = NOT_POSSIBLE");
        Script.run("23: errors with packets in queues",
            "addFlow(1) = 0; offer(0, 1, 0) = 0; bestSplit(0, LEAST_INT, 1, 1, 1) = BAD_VALUE; bestSplit(0, GREATEST_INT, 1, 1, 1) = BAD_VALUE; bestSplit(0, 0, LEAST_INT, 1, 1) = BAD_VALUE",
            "bestSplit(0, 0, GREATEST_INT, 3, 1) = BAD_VALUE; bestSplit(0, 0, 1, LEAST_INT, 1) = BAD_VALUE; bestSplit(0, 0, 1, GREATEST_INT, 1) = BAD_VALUE",
            "bestSplit(0, 0, 1, 1, LEAST_INT) = BAD_VALUE; bestSplit(0, 0, 1, 1, GREATEST_INT) = BAD_VALUE; bestSplit(0, 0, 200, 6, 1) = 0; bestSplit(0, 1000, 500, 1, 1) = 1000");
    }

    private static void nothingChanges() {
        Script.run("21, 22, 23: forecasts change nothing",
            "addFlow(2) = 0; addFlow(1) = 1; set(0, SPLIT, 3) = 0; set(1, PATIENCE, 4) = 0; offer(0, 10, 30) = 0; offer(1, 7, 0) = 1; advance(6) = 6; save(0) = 6; put(\"a1\") = 2",
            "forecast(1, 2000) = 9; leastWeight(0, 1000) = 1; bestSplit(0, 1, 3, 4, 1000) = 7; link(0) = 6; link(7) = 1; link(9) = 9; link(11) = 2; link(12) = 5; link(13) = 2",
            "link(15) = 1; flow(0, 0) = 2; flow(0, 2) = 3; flow(0, 5) = 1; flow(0, 7) = 7; flow(0, 8) = 3; flow(0, 9) = 0; flow(1, 9) = 0; amount(0, 1) = 3*360360; packet(0, 6) = 1",
            "virtualTime() = 0; piece(1, 0) = NONE; packet(1, 4) = SENDING; packet(0, 4) = WAITING; restore(0) = 6; link(11) = 0");
    }
}
