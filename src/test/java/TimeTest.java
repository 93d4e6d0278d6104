/** Promises 13 and 14, advance and awaitDelivery, and each step of a tick. */
public final class TimeTest {
    public static void main(String[] args) {
        advance();
        lastTime();
        awaitDelivery();
        sending();
        joining();
        forgiving();
        fluid();
        choosing();
        promoting();
        Script.end();
    }

    private static void advance() {
        Script.run("13: ticks", "advance(1) = 1; advance(2000) = 2001; link(0) = 2001");
        Script.run("13: wrong ticks", "advance(0) = BAD_VALUE; advance(-1) = BAD_VALUE; advance(2001) = BAD_VALUE; advance(LEAST_INT) = BAD_VALUE",
            "advance(GREATEST_INT) = BAD_VALUE; link(0) = 0");
    }

    private static void lastTime() {
        Script script = new Script("13, 14: the time is at most 1000000");
        for (int i = 1; i < 500; i++) {
            script.calls("advance(2000) = " + 2000 * i);
        }
        script.calls("advance(1999) = 999999; advance(2) = NOT_POSSIBLE; advance(2000) = NOT_POSSIBLE; advance(2001) = BAD_VALUE")
            .calls("awaitDelivery(2) = NOT_POSSIBLE; awaitDelivery(0) = BAD_VALUE; addFlow(1) = 0; link(0) = 999999");
        Script near = new Script("13, 14, 21: near the last time").calls("addFlow(1) = 0; rule(HEADER, 0) = 2");
        near.calls("advance(1990) = 1990");
        for (int i = 1; i < 500; i++) {
            near.calls("advance(2000) = " + (1990 + 2000 * i));
        }
        near.calls("offer(0, 2, 0) = 0; forecast(0, 2000) = 3; awaitDelivery(11) = NOT_POSSIBLE; advance(11) = NOT_POSSIBLE")
            .calls("awaitDelivery(10) = 0; link(0) = 999993; advance(7) = 1000000; advance(1) = NOT_POSSIBLE")
            .calls("offer(0, 5, 0) = 1; forecast(1, 2000) = 6");
    }

    private static void awaitDelivery() {
        Script.run("14: the packet that the last tick delivers",
            "addFlow(1) = 0; addFlow(1) = 1; offer(1, 4, 0) = 0; offer(0, 3, 0) = 1; awaitDelivery(5) = NONE; link(0) = 5; awaitDelivery(1) = 1",
            "link(0) = 6; packet(1, 8) = 6; awaitDelivery(2000) = 0; link(0) = 12; awaitDelivery(2000) = NONE; link(0) = 2012");
        Script.run("14: the lowest number of several",
            "addFlow(1) = 0; addFlow(1) = 1; rule(HEADER, 0) = 2; rule(JOINING, 50) = 1; set(0, SPLIT, 1) = 0; set(1, SPLIT, 1) = 0",
            "offer(1, 2, 0) = 0; offer(0, 2, 0) = 1; offer(0, 1, 0) = 2; awaitDelivery(9) = 2; link(0) = 6; packet(0, 4) = SENT; packet(1, 4) = SENT",
            "rule(JOINING, 1) = 50; awaitDelivery(9) = 0; link(0) = 7; packet(0, 8) = 7; packet(1, 8) = 7; packet(2, 8) = 6; awaitDelivery(9) = NONE");
        Script.run("14: one that was delivered before does not count", "addFlow(1) = 0; offer(0, 1, 0) = 0; advance(4) = 4; packet(0, 8) = 4; awaitDelivery(1) = NONE; link(0) = 5");
        Script.run("14: wrong ticks", "awaitDelivery(0) = BAD_VALUE; awaitDelivery(2001) = BAD_VALUE; awaitDelivery(-1) = BAD_VALUE",
            "awaitDelivery(LEAST_INT) = BAD_VALUE; awaitDelivery(GREATEST_INT) = BAD_VALUE; link(0) = 0");
    }

    private static void sending() {
        Script.run("step 2: a piece takes HEADER + length ticks, and the next one begins in the tick that ends it",
            "addFlow(1) = 0; offer(0, 3, 0) = 0; offer(0, 1, 0) = 1; link(7) = NONE; advance(1) = 1; link(7) = 0; link(8) = 3; link(9) = 5; link(12) = 0",
            "advance(4) = 5; link(9) = 1; packet(0, 4) = SENDING; flow(0, 8) = 0; link(15) = 0; link(12) = 4; advance(1) = 6; packet(0, 4) = DELIVERED",
            "flow(0, 8) = 3; link(15) = 1; link(13) = 2; link(7) = 1; link(9) = 3; link(12) = 5; flow(0, 5) = 1; flow(0, 6) = 1; advance(3) = 9",
            "link(7) = NONE; link(8) = 0; link(9) = 0; link(10) = 0; link(13) = 4; link(12) = 8; advance(5) = 14; link(12) = 8");
        Script.run("step 2: without a header", "addFlow(1) = 0; rule(HEADER, 0) = 2; offer(0, 1, 0) = 0; advance(1) = 1; link(9) = 1; advance(1) = 2; packet(0, 8) = 2; link(13) = 0");
        Script.run("step 2: pieces of at most SPLIT, which may change between them",
            "addFlow(1) = 0; set(0, SPLIT, 4) = 0; offer(0, 9, 0) = 0; advance(1) = 1; link(8) = 4; set(0, SPLIT, 1) = 4; link(8) = 4; advance(6) = 7",
            "link(8) = 1; packet(0, 5) = 4; flow(0, 8) = 4; flow(0, 7) = 5; set(0, SPLIT, 0) = 1; advance(3) = 10; link(8) = 4; advance(6) = 16",
            "packet(0, 4) = SENT; packet(0, 6) = 3; piece(0, 2) = 4; piece(1, 2) = 1; piece(2, 2) = 4; piece(2, 3) = 16");
        Script.run("step 2: a packet that is as long as SPLIT is one piece",
            "addFlow(1) = 0; set(0, SPLIT, 4) = 0; offer(0, 4, 0) = 0; offer(0, 5, 0) = 1; advance(7) = 7; packet(0, 4) = DELIVERED; packet(0, 6) = 1; link(8) = 4");
    }

    private static void joining() {
        Script.run("step 3: JOINING ticks after the last piece",
            "addFlow(1) = 0; set(0, SPLIT, 1) = 0; rule(HEADER, 0) = 2; rule(JOINING, 3) = 1; offer(0, 2, 0) = 0; advance(3) = 3; packet(0, 4) = SENT",
            "flow(0, 5) = 0; flow(0, 9) = 0; advance(2) = 5; packet(0, 4) = SENT; advance(1) = 6; packet(0, 4) = DELIVERED; packet(0, 8) = 6; flow(0, 13) = 6");
        Script.run("step 3: without JOINING, delivered at once",
            "addFlow(1) = 0; set(0, SPLIT, 1) = 0; rule(HEADER, 0) = 2; rule(JOINING, 0) = 1; offer(0, 2, 0) = 0; advance(3) = 3; packet(0, 4) = DELIVERED; packet(0, 8) = 3");
        Script.run("step 3: one piece needs no JOINING",
            "addFlow(1) = 0; rule(JOINING, 50) = 1; offer(0, 2, 0) = 0; advance(5) = 5; packet(0, 4) = DELIVERED; packet(0, 8) = 5");
        Script.run("step 3: JOINING as it is then, also 0",
            "addFlow(1) = 0; set(0, SPLIT, 1) = 0; rule(HEADER, 0) = 2; rule(JOINING, 50) = 1; offer(0, 2, 0) = 0; advance(3) = 3; rule(JOINING, 0) = 50",
            "packet(0, 4) = SENT; advance(1) = 4; packet(0, 8) = 4; rule(JOINING, 2) = 0; offer(0, 2, 0) = 1; advance(3) = 7; packet(1, 4) = SENT; rule(JOINING, 5) = 2",
            "advance(4) = 11; packet(1, 4) = SENT; advance(1) = 12; packet(1, 8) = 12");
        Script.run("late: delivered after the deadline",
            "addFlow(1) = 0; set(0, SPLIT, 1) = 0; rule(HEADER, 0) = 2; rule(JOINING, 2) = 1; rule(PROMOTION, 0) = 1; offer(0, 2, 5) = 0; offer(0, 2, 6) = 1",
            "advance(5) = 5; packet(0, 8) = 5; flow(0, 9) = 1; flow(0, 10) = 0; advance(2) = 7; packet(1, 8) = 7; flow(0, 9) = 2; flow(0, 10) = 1",
            "offer(0, 1, 0) = 2; advance(9) = 16; flow(0, 9) = 3; flow(0, 10) = 1");
    }

    private static void forgiving() {
        Script.run("step 4: idleness counts the ticks with an empty queue",
            "addFlow(1) = 0; addFlow(1) = 1; advance(3) = 3; flow(0, 11) = 3; offer(0, 2, 0) = 0; flow(0, 11) = 3; advance(1) = 4; flow(0, 11) = 0; flow(1, 11) = 4",
            "advance(4) = 8; packet(0, 4) = DELIVERED; flow(0, 11) = 1; advance(1) = 9; flow(0, 11) = 2; flow(1, 11) = 9");
        Script.run("step 4: ALL of the debt",
            "addFlow(2) = 0; set(0, PATIENCE, 2) = 0; offer(0, 5, 0) = 0; advance(8) = 8; flow(0, 11) = 1; amount(0, 2) = 5*360360; advance(1) = 9",
            "flow(0, 11) = 0; amount(0, 2) = 0; amount(0, 0) = 0; amount(0, 3) = 5*360360; advance(2) = 11; flow(0, 11) = 0; amount(0, 3) = 5*360360");
        Script.run("step 4: HALF of it, rounded toward 0, again and again",
            "addFlow(16) = 0; set(0, PATIENCE, 1) = 0; set(0, MERCY, HALF) = 2; rule(HEADER, 0) = 2; offer(0, 1, 0) = 0; advance(1) = 1; amount(0, 0) = 45045",
            "advance(1) = 2; amount(0, 2) = 22522; amount(0, 3) = 22523; advance(1) = 3; amount(0, 2) = 11261; amount(0, 3) = 33784; advance(20) = 23",
            "amount(0, 2) = 0; amount(0, 3) = 45045; amount(0, 0) = 0; flow(0, 11) = 0");
        Script.run("step 4: HALF of what the finish is above V",
            "addFlow(1) = 0; set(0, PATIENCE, 1) = 0; set(0, MERCY, HALF) = 2; rule(HEADER, 0) = 2; offer(0, 3, 0) = 0; offer(0, 8, 0) = 1; advance(12) = 12",
            "virtualTime() = 3*UNIT; flow(0, 11) = 0; amount(0, 0) = 7*UNIT; amount(0, 2) = 4*UNIT; amount(0, 3) = 4*UNIT");
        Script.run("step 4: NOTHING, and never without PATIENCE",
            "addFlow(1) = 0; addFlow(1) = 1; set(0, PATIENCE, 2) = 0; set(0, MERCY, NOTHING) = 2; offer(0, 2, 0) = 0; offer(1, 2, 0) = 1; advance(30) = 30",
            "amount(0, 2) = 2*UNIT; amount(1, 2) = 2*UNIT; flow(0, 11) = 26; flow(1, 11) = 22; amount(0, 3) = 0; amount(1, 3) = 0; set(0, MERCY, ALL) = 0",
            "advance(1) = 31; amount(0, 2) = 0; amount(0, 3) = 2*UNIT; flow(0, 11) = 0; set(1, PATIENCE, 1000) = 0; advance(900) = 931; amount(1, 2) = 2*UNIT",
            "advance(77) = 1008; flow(1, 11) = 0; amount(1, 2) = 0");
        Script.run("step 4: the finish is not raised to V",
            "addFlow(1) = 0; addFlow(1) = 1; set(1, PATIENCE, 1) = 0; offer(0, 5, 0) = 0; offer(0, 5, 0) = 1; advance(20) = 20; virtualTime() = 5*UNIT",
            "amount(1, 0) = 0; amount(1, 3) = 0; flow(1, 11) = 0");
        Script.run("step 4: a flow with a queue is forgiven nothing",
            "addFlow(1) = 0; set(0, PATIENCE, 1) = 0; offer(0, 50, 0) = 0; advance(40) = 40; flow(0, 11) = 0; amount(0, 0) = 50*UNIT; amount(0, 3) = 0");
    }

    private static void fluid() {
        Script.run("step 5: by weights, rounded toward 0",
            "addFlow(1) = 0; addFlow(16) = 1; offer(0, 16, 0) = 0; offer(1, 3, 0) = 1; advance(1) = 1; amount(0, 5) = 42395; amount(1, 5) = 678324",
            "amount(0, 4) = 11489125; amount(1, 4) = 1483836; advance(2) = 3; amount(1, 4) = 127188; amount(1, 5) = 2034972; advance(1) = 4; amount(1, 4) = 0",
            "amount(1, 5) = 3*UNIT; amount(0, 5) = 169580; advance(1) = 5; amount(0, 5) = 890300; advance(15) = 20; amount(0, 4) = 0; amount(0, 5) = 16*UNIT");
        Script.run("step 5: a weight that changes counts from the next tick on",
            "addFlow(1) = 0; addFlow(1) = 1; offer(0, 9, 0) = 0; offer(1, 9, 0) = 1; advance(2) = 2; amount(0, 5) = UNIT; set(0, WEIGHT, 3) = 1; advance(2) = 4",
            "amount(0, 5) = 5*360360; amount(1, 5) = 3*360360");
        Script.run("step 5: the last unit of fluid",
            "addFlow(7) = 0; addFlow(10) = 1; offer(0, 7, 0) = 0; offer(1, 100, 0) = 1; advance(17) = 17; amount(0, 4) = 1; amount(1, 5) = 7207184; advance(1) = 18",
            "amount(0, 4) = 0; amount(0, 5) = 7*UNIT; amount(1, 5) = 7631136; advance(1) = 19; amount(1, 5) = 8351856");
        Script.run("step 5: fluid does not wait for headers, and the lag is its lead over what was sent",
            "addFlow(1) = 0; rule(HEADER, 5) = 2; offer(0, 3, 0) = 0; advance(3) = 3; amount(0, 5) = 3*UNIT; amount(0, 4) = 0; amount(0, 6) = 3*UNIT; advance(6) = 9",
            "amount(0, 6) = 0; amount(0, 7) = 3*UNIT; advance(5) = 14; amount(0, 7) = 3*UNIT");
    }

    private static void choosing() {
        Script.run("step 6: the least tag, of several the lowest flow, and V follows",
            "addFlow(1) = 0; addFlow(2) = 1; addFlow(1) = 2; rule(HEADER, 0) = 2; offer(2, 2, 0) = 0; offer(1, 4, 0) = 1; offer(1, 4, 0) = 2; offer(0, 4, 0) = 3",
            "offer(0, 1, 0) = 4; offer(2, 1, 0) = 5; link(14) = 0; advance(1) = 1; link(7) = 3; virtualTime() = 0; advance(4) = 5; link(7) = 1; advance(4) = 9",
            "link(7) = 0; virtualTime() = 0; advance(2) = 11; link(7) = 2; virtualTime() = 2*UNIT; advance(4) = 15; link(7) = 5; virtualTime() = 2*UNIT",
            "advance(1) = 16; link(7) = 4; virtualTime() = 4*UNIT; link(14) = 0; advance(1) = 17; link(7) = NONE; link(14) = NONE");
        Script.run("step 6: pieces of two flows take turns by their tags",
            "addFlow(1) = 0; addFlow(2) = 1; rule(HEADER, 0) = 2; set(0, SPLIT, 2) = 0; set(1, SPLIT, 2) = 0; offer(0, 4, 0) = 0; offer(1, 8, 0) = 1; advance(13) = 13",
            "piece(0, 1) = 0; piece(1, 1) = 1; piece(2, 1) = 1; piece(3, 1) = 0; piece(4, 1) = 1; piece(5, 1) = 1; piece(5, 3) = 13; virtualTime() = 3*UNIT");
        Script.run("step 6: V follows the tags of pieces",
            "addFlow(1) = 0; rule(HEADER, 0) = 2; offer(0, 6, 0) = 0; offer(0, 6, 0) = 1; advance(7) = 7; virtualTime() = 6*UNIT; addFlow(1) = 1; set(0, SPLIT, 2) = 0",
            "offer(1, 1, 0) = 2; start(2) = 6*UNIT; offer(0, 4, 0) = 3; set(0, WEIGHT, 16) = 1; advance(20) = 27; virtualTime() = 12*UNIT+90090");
        Script.run("step 6: a tag below V does not lower it",
            "addFlow(1) = 0; addFlow(1) = 1; rule(HEADER, 0) = 2; set(1, SPLIT, 4) = 0; offer(1, 8, 0) = 0; offer(0, 2, 0) = 1; offer(0, 2, 0) = 2; offer(0, 2, 0) = 3",
            "advance(9) = 9; link(7) = 3; virtualTime() = 4*UNIT; set(1, WEIGHT, 16) = 1; link(14) = 1; amount(1, 1) = 4*45045; amount(1, 2) = 0; advance(2) = 11",
            "link(7) = 0; virtualTime() = 4*UNIT; amount(1, 1) = 4*45045; amount(0, 2) = 2*UNIT");
    }

    private static void promoting() {
        Script.run("step 6: the urgent head with the earliest deadline, of several the lowest flow, and V stays",
            "addFlow(1) = 0; addFlow(1) = 1; addFlow(1) = 2; addFlow(1) = 3; rule(HEADER, 0) = 2; rule(MARGIN, 1000) = 10; offer(0, 3, 0) = 0; offer(0, 3, 0) = 1",
            "offer(1, 3, 90) = 2; offer(2, 3, 80) = 3; offer(3, 3, 80) = 4; offer(3, 3, 1) = 5; link(14) = 2; advance(1) = 1; link(7) = 3; link(10) = 1; link(14) = 2",
            "advance(3) = 4; link(7) = 4; link(14) = 3; advance(3) = 7; link(7) = 5; link(10) = 1; virtualTime() = 0; advance(3) = 10; link(7) = 2; advance(3) = 13",
            "link(7) = 0; link(10) = 0; piece(0, 4) = 1; piece(3, 4) = 1; advance(3) = 16; piece(4, 4) = 0; virtualTime() = 3*UNIT; packet(3, 7) = 1; packet(0, 7) = 0",
            "amount(3, 2) = 3*UNIT; amount(1, 2) = 0");
        Script.run("step 6: only heads are urgent",
            "addFlow(1) = 0; addFlow(1) = 1; offer(0, 9, 0) = 0; offer(1, 9, 0) = 1; offer(1, 9, 1) = 2; packet(2, 9) = 1; link(14) = 0; advance(1) = 1; link(7) = 0; link(10) = 0");
        Script.run("step 6: nothing is promoted without PROMOTION",
            "addFlow(1) = 0; addFlow(1) = 1; rule(PROMOTION, 0) = 1; offer(0, 9, 0) = 0; offer(1, 9, 1) = 1; link(14) = 0; advance(1) = 1; link(7) = 0; link(10) = 0",
            "rule(PROMOTION, 1) = 0; link(14) = 1; advance(11) = 12; link(7) = 1; link(10) = 1; virtualTime() = 0");
        Script.run("step 6: without a piece, none is promoted",
            "addFlow(1) = 0; offer(0, 5, 1) = 0; advance(1) = 1; link(10) = 1; advance(6) = 7; link(10) = 1; advance(1) = 8; link(7) = NONE; link(10) = 0");
        Script.run("step 6: pieces of a promoted packet, and a packet that gets urgent between its pieces",
            "addFlow(1) = 0; addFlow(1) = 1; rule(HEADER, 0) = 2; rule(MARGIN, 0) = 10; set(1, SPLIT, 2) = 0; offer(1, 6, 9) = 0; offer(0, 5, 0) = 1; advance(1) = 1",
            "link(7) = 1; link(14) = 0; advance(5) = 6; link(7) = 0; link(10) = 1; advance(2) = 8; link(10) = 1; link(14) = 1; advance(4) = 12; packet(0, 7) = 3",
            "packet(0, 4) = SENT; flow(1, 10) = 0; advance(1) = 13; packet(0, 4) = DELIVERED; flow(1, 10) = 1");
    }
}
