/** Promises 5 to 8: offer, cancel, packet, start. */
public final class PacketsTest {
    public static void main(String[] args) {
        offer();
        offerWithoutRoom();
        offerThatWouldForget();
        cancel();
        packet();
        urgency();
        start();
        Script.end();
    }

    private static void offer() {
        Script.run("5: packets are numbered over all flows",
            "addFlow(1) = 0; addFlow(1) = 1; offer(1, 1, 0) = 0; offer(0, 2000, 9999) = 1; offer(1, 5, 1) = 2; link(6) = 3",
            "flow(0, 14) = 1; flow(1, 14) = 2; flow(0, 5) = 1; flow(1, 5) = 2; flow(1, 6) = 0; flow(0, 6) = 1",
            "amount(0, 4) = 2000*UNIT; amount(1, 4) = 6*UNIT; amount(0, 0) = 2000*UNIT; amount(1, 0) = 6*UNIT");
        Script.run("5: wrong arguments, the flow is told first",
            "offer(0, 1, 0) = NO_SUCH; offer(0, 0, -1) = NO_SUCH; addFlow(1) = 0; offer(1, 1, 0) = NO_SUCH; offer(-1, 1, 0) = NO_SUCH",
            "offer(LEAST_INT, 1, 0) = NO_SUCH; offer(GREATEST_INT, 1, 0) = NO_SUCH; offer(0, 0, 0) = BAD_VALUE; offer(0, 2001, 0) = BAD_VALUE",
            "offer(0, -1, 0) = BAD_VALUE; offer(0, LEAST_INT, 0) = BAD_VALUE; offer(0, 1, -1) = BAD_VALUE; offer(0, 1, 10000) = BAD_VALUE",
            "offer(0, 1, GREATEST_INT) = BAD_VALUE; link(6) = 0; flow(0, 5) = 0; flow(0, 14) = 0; amount(0, 0) = 0; amount(0, 4) = 0");
    }

    private static void offerWithoutRoom() {
        Script full = new Script("5: the ROOM of 20").calls("addFlow(1) = 0; addFlow(1) = 1");
        for (int number = 0; number < 20; number++) {
            full.calls("offer(0, 9, 0) = " + number);
        }
        full.calls("offer(0, 9, 0) = TOO_MANY; offer(0, 2001, 0) = BAD_VALUE; offer(0, 9, -1) = BAD_VALUE; offer(2, 9, 0) = NO_SUCH")
            .calls("flow(0, 5) = 20; flow(0, 14) = 20; amount(0, 0) = 180*UNIT; amount(0, 4) = 180*UNIT; offer(1, 1, 0) = 20");
        Script.run("5: a ROOM that is set, also below what waits",
            "addFlow(1) = 0; set(0, ROOM, 2) = 20; offer(0, 3, 0) = 0; offer(0, 3, 0) = 1; offer(0, 3, 0) = TOO_MANY; set(0, ROOM, 1) = 2",
            "offer(0, 3, 0) = TOO_MANY; cancel(1) = 1; offer(0, 3, 0) = TOO_MANY; set(0, ROOM, 2) = 1; offer(0, 3, 0) = 2");
        Script.run("5: a packet that is being sent takes room, one that is SENT does not",
            "addFlow(1) = 0; set(0, ROOM, 1) = 20; set(0, SPLIT, 1) = 0; rule(HEADER, 0) = 2; rule(JOINING, 9) = 1; offer(0, 2, 0) = 0",
            "advance(2) = 2; packet(0, 4) = SENDING; offer(0, 1, 0) = TOO_MANY; advance(1) = 3; packet(0, 4) = SENT; offer(0, 1, 0) = 1");
    }

    /** The packets 1 to 119 are offered to another flow, and canceled. */
    private static Script withOldPacket(String title, String first) {
        Script script = new Script(title).calls("addFlow(1) = 0; addFlow(1) = 1").calls(first);
        for (int number = 1; number < 120; number++) {
            script.calls("offer(1, 1, 0) = " + number + "; cancel(" + number + ") = 0");
        }
        return script;
    }

    private static void offerThatWouldForget() {
        withOldPacket("5: a packet that waits, is being sent, or is SENT is not forgotten",
            "set(0, SPLIT, 1) = 0; rule(JOINING, 3) = 1; rule(HEADER, 0) = 2; offer(0, 2, 0) = 0")
            .calls("link(16) = 0; offer(1, 1, 0) = TOO_MANY; offer(0, 1, 0) = TOO_MANY; link(6) = 120; packet(0, 4) = WAITING")
            .calls("offer(1, 2001, 0) = BAD_VALUE; offer(2, 1, 0) = NO_SUCH; put(\"b1*3\") = 4; load() = 0; link(11) = 0")
            .calls("advance(1) = 1; packet(0, 4) = SENDING; offer(1, 1, 0) = TOO_MANY")
            .calls("advance(2) = 3; packet(0, 4) = SENT; offer(1, 1, 0) = TOO_MANY; amount(1, 4) = 235*360360")
            .calls("advance(3) = 6; packet(0, 4) = DELIVERED; offer(1, 1, 0) = 120; packet(0, 4) = NO_SUCH; packet(1, 4) = CANCELED")
            .calls("link(16) = 1; start(0) = GONE+NO_SUCH; cancel(0) = NO_SUCH; forecast(0, 5) = NO_SUCH; leastWeight(0, 5) = NO_SUCH")
            .calls("offer(1, 1, 0) = 121; link(16) = 2; packet(120, 4) = WAITING; packet(121, 4) = WAITING; flow(0, 9) = 1; flow(0, 14) = 1");
        withOldPacket("5: a packet that is CANCELED is forgotten", "offer(0, 2, 0) = 0; cancel(0) = 0")
            .calls("packet(0, 4) = CANCELED; offer(0, 7, 5) = 120; packet(0, 4) = NO_SUCH; packet(120, 1) = 7; packet(120, 4) = WAITING")
            .calls("packet(120, 3) = 5; packet(120, 5) = 0; packet(120, 6) = 0; packet(120, 8) = NONE; start(120) = 2*UNIT");
        withOldPacket("5: a new packet has nothing of the one whose place it takes",
            "set(0, SPLIT, 1) = 0; rule(MARGIN, 1000) = 10; offer(0, 2, 9) = 0; advance(20) = 20; packet(0, 7) = 2; packet(0, 8) = 8")
            .calls("offer(1, 3, 0) = 120; packet(120, 0) = 1; packet(120, 2) = 20; packet(120, 3) = NONE; packet(120, 4) = WAITING")
            .calls("packet(120, 5) = 0; packet(120, 6) = 0; packet(120, 7) = 0; packet(120, 8) = NONE; packet(120, 9) = 0");
    }

    private static void cancel() {
        Script.run("6: it leaves the queue, and starts, finish and fluid stay",
            "addFlow(1) = 0; offer(0, 4, 0) = 0; offer(0, 5, 0) = 1; offer(0, 6, 0) = 2; cancel(1) = 2; packet(1, 4) = CANCELED",
            "flow(0, 5) = 2; flow(0, 6) = 0; flow(0, 7) = 10; start(0) = 0; start(1) = 4*UNIT; start(2) = 9*UNIT; amount(0, 0) = 15*UNIT",
            "amount(0, 4) = 15*UNIT; flow(0, 14) = 3; cancel(0) = 1; flow(0, 6) = 2; amount(0, 1) = 9*UNIT; cancel(2) = 0; flow(0, 6) = NONE",
            "link(14) = NONE; advance(30) = 30; link(15) = 0; amount(0, 5) = 15*UNIT; packet(0, 8) = NONE; flow(0, 9) = 0");
        Script.run("6: the queue keeps its order",
            "addFlow(1) = 0; rule(HEADER, 0) = 2; offer(0, 1, 0) = 0; offer(0, 1, 0) = 1; offer(0, 1, 0) = 2; offer(0, 1, 0) = 3; cancel(1) = 3",
            "advance(4) = 4; piece(0, 0) = 0; piece(1, 0) = 2; piece(2, 0) = 3; piece(3, 0) = NONE");
        Script.run("6: errors",
            "cancel(0) = NO_SUCH; addFlow(1) = 0; set(0, SPLIT, 2) = 0; rule(HEADER, 0) = 2; rule(JOINING, 4) = 1; offer(0, 4, 0) = 0",
            "offer(0, 2, 30) = 1; cancel(2) = NO_SUCH; cancel(-1) = NO_SUCH; cancel(LEAST_INT) = NO_SUCH; cancel(GREATEST_INT) = NO_SUCH",
            "advance(1) = 1; packet(0, 4) = SENDING; cancel(0) = NOT_POSSIBLE; advance(1) = 2; packet(0, 4) = SENDING; flow(0, 5) = 2");
        Script.run("6: not between two pieces, not when SENT, DELIVERED or CANCELED",
            "addFlow(1) = 0; addFlow(1) = 1; set(0, SPLIT, 2) = 0; rule(HEADER, 0) = 2; rule(JOINING, 4) = 1; offer(0, 4, 0) = 0; offer(1, 1, 0) = 1",
            "advance(3) = 3; packet(0, 4) = WAITING; packet(0, 5) = 2; cancel(0) = NOT_POSSIBLE; cancel(1) = NOT_POSSIBLE; advance(3) = 6",
            "packet(0, 4) = SENT; cancel(0) = NOT_POSSIBLE; packet(1, 4) = DELIVERED; cancel(1) = NOT_POSSIBLE; offer(1, 1, 0) = 2",
            "cancel(2) = 0; cancel(2) = NOT_POSSIBLE; packet(2, 4) = CANCELED");
        Script.run("6: not when a length of 1 was sent",
            "addFlow(1) = 0; addFlow(1) = 1; set(0, SPLIT, 1) = 0; rule(HEADER, 0) = 2; offer(0, 2, 0) = 0; offer(1, 1, 0) = 1; advance(2) = 2; packet(0, 4) = WAITING",
            "packet(0, 5) = 1; cancel(0) = NOT_POSSIBLE; flow(0, 5) = 1");
    }

    private static void packet() {
        Script.run("7: every property, piece by piece",
            "addFlow(1) = 0; addFlow(2) = 1; set(1, SPLIT, 4) = 0; rule(JOINING, 3) = 1; advance(5) = 5; offer(1, 10, 40) = 0",
            "packet(0, 0) = 1; packet(0, 1) = 10; packet(0, 2) = 5; packet(0, 3) = 45; packet(0, 4) = WAITING; packet(0, 5) = 0; packet(0, 6) = 0",
            "packet(0, 7) = 0; packet(0, 8) = NONE; packet(0, 9) = 0; advance(6) = 11; packet(0, 4) = SENDING; packet(0, 5) = 0; packet(0, 6) = 0",
            "advance(1) = 12; packet(0, 5) = 4; packet(0, 6) = 1; packet(0, 7) = 0; rule(MARGIN, 1000) = 10; packet(0, 9) = 1; advance(6) = 18",
            "packet(0, 5) = 8; packet(0, 6) = 2; packet(0, 7) = 0; link(10) = 1; advance(4) = 22; packet(0, 4) = SENT; packet(0, 5) = 10",
            "packet(0, 6) = 3; packet(0, 7) = 1; packet(0, 8) = NONE; packet(0, 9) = 0; advance(2) = 24; packet(0, 4) = SENT; advance(1) = 25",
            "packet(0, 4) = DELIVERED; packet(0, 8) = 25; packet(0, 9) = 0");
        Script.run("7: no deadline, and no deadline that is urgent when CANCELED",
            "addFlow(1) = 0; offer(0, 10, 0) = 0; offer(0, 10, 1) = 1; packet(0, 3) = NONE; packet(0, 9) = 0; packet(1, 9) = 1; cancel(1) = 1",
            "packet(1, 9) = 0; packet(1, 3) = 1; packet(1, 8) = NONE");
        Script.run("7: errors, the packet is told first",
            "packet(0, 0) = NO_SUCH; packet(0, 10) = NO_SUCH; addFlow(1) = 0; offer(0, 1, 0) = 0; packet(1, -1) = NO_SUCH; packet(-1, 0) = NO_SUCH",
            "packet(LEAST_INT, 0) = NO_SUCH; packet(GREATEST_INT, 0) = NO_SUCH; packet(0, -1) = BAD_VALUE; packet(0, 10) = BAD_VALUE",
            "packet(0, LEAST_INT) = BAD_VALUE; packet(0, GREATEST_INT) = BAD_VALUE; packet(0, 9) = 0");
    }

    private static void urgency() {
        Script.run("7: urgent from time + HEADER + rest + MARGIN = deadline on",
            "addFlow(1) = 0; addFlow(1) = 1; offer(0, 100, 0) = 0; advance(1) = 1; offer(1, 5, 20) = 1; offer(1, 5, 17) = 2; offer(1, 5, 18) = 3",
            "packet(1, 9) = 0; packet(2, 9) = 1; packet(3, 9) = 0; advance(1) = 2; packet(3, 9) = 1; packet(1, 9) = 0; advance(2) = 4; packet(1, 9) = 1",
            "rule(PROMOTION, 0) = 1; packet(1, 9) = 0; packet(2, 9) = 0; rule(PROMOTION, 1) = 0; packet(2, 9) = 1; rule(MARGIN, 0) = 10; packet(1, 9) = 0");
        Script.run("7: a rest in several pieces has several headers",
            "addFlow(1) = 0; rule(MARGIN, 0) = 10; offer(0, 10, 12) = 0; offer(0, 10, 13) = 1; packet(0, 9) = 1; packet(1, 9) = 0",
            "set(0, SPLIT, 10) = 0; packet(0, 9) = 1; packet(1, 9) = 0; set(0, SPLIT, 9) = 10; packet(1, 9) = 1; offer(0, 10, 14) = 2",
            "offer(0, 10, 15) = 3; packet(2, 9) = 1; packet(3, 9) = 0; set(0, SPLIT, 5) = 9; packet(2, 9) = 1; packet(3, 9) = 0",
            "set(0, SPLIT, 4) = 5; packet(3, 9) = 1; offer(0, 10, 16) = 4; offer(0, 10, 17) = 5; packet(4, 9) = 1; packet(5, 9) = 0",
            "set(0, SPLIT, 1) = 4; offer(0, 10, 30) = 6; offer(0, 10, 31) = 7; packet(6, 9) = 1; packet(7, 9) = 0");
        Script.run("7: the rest of a packet that is partly sent, and the piece in work counts as unsent",
            "addFlow(1) = 0; rule(MARGIN, 0) = 10; set(0, SPLIT, 4) = 0; offer(0, 10, 22) = 0; advance(1) = 1; packet(0, 9) = 0; advance(5) = 6",
            "packet(0, 4) = SENDING; packet(0, 9) = 1; advance(1) = 7; packet(0, 5) = 4; packet(0, 9) = 0; advance(5) = 12; packet(0, 9) = 1");
    }

    private static void start() {
        Script.run("8: the greater of V and the finish of the flow",
            "addFlow(1) = 0; addFlow(3) = 1; offer(0, 6, 0) = 0; offer(0, 6, 0) = 1; offer(1, 9, 0) = 2; offer(1, 9, 0) = 3; start(0) = 0",
            "start(1) = 6*UNIT; start(2) = 0; start(3) = 3*UNIT; amount(0, 0) = 12*UNIT; amount(1, 0) = 6*UNIT; advance(100) = 100",
            "virtualTime() = 6*UNIT; addFlow(16) = 2; offer(2, 1, 0) = 4; start(4) = 6*UNIT; amount(2, 0) = 4369365; offer(2, 1, 0) = 5",
            "start(5) = 4369365; offer(0, 1, 0) = 6; start(6) = 12*UNIT; start(0) = 0; start(3) = 3*UNIT");
        Script.run("8: errors",
            "start(0) = GONE+NO_SUCH; addFlow(1) = 0; offer(0, 1, 0) = 0; start(1) = GONE+NO_SUCH; start(-1) = GONE+NO_SUCH",
            "start(LEAST_INT) = GONE+NO_SUCH; start(GREATEST_INT) = GONE+NO_SUCH; start(0) = 0; cancel(0) = 0; start(0) = 0");
    }
}
