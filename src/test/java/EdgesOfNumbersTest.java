/** Boundary cases that the promises 15 to 20 name: flow, amount, virtualTime, link, piece, apart. */
public final class EdgesOfNumbersTest {
    public static void main(String[] args) {
        flowQueue();
        flowCounts();
        flowErrors();
        amount();
        virtualTime();
        linkPiece();
        linkCounts();
        linkNext();
        linkOldest();
        piece();
        pieceErrors();
        apart();
        Script.end();
    }

    private static void flowQueue() {
        Edge.run("15", "0 to 4 the setting WEIGHT to MERCY",
            "addFlow(16) = 0; set(0, ROOM, 1) = 20; set(0, SPLIT, 1000) = 0; set(0, PATIENCE, 999) = 0; set(0, MERCY, 0) = 2; flow(0, 0) = 16; flow(0, 1) = 1; flow(0, 2) = 1000; flow(0, 3) = 999; flow(0, 4) = 0; flow(0, 5) = 0");
        Script full = Edge.of("15", "5 packets in its queue").calls("addFlow(1) = 0; flow(0, 5) = 0");
        for (int number = 0; number < 20; number++) {
            full.calls("offer(0, 3, 0) = " + number + "; flow(0, 5) = " + (number + 1) + "; flow(0, 6) = 0; flow(0, 7) = " + 3 * (number + 1));
        }
        full.calls("offer(0, 3, 0) = TOO_MANY; flow(0, 5) = 20; flow(0, 7) = 60; flow(0, 14) = 20; advance(101) = 101; flow(0, 5) = 0; flow(0, 6) = NONE; flow(0, 7) = 0; flow(0, 8) = 60; flow(0, 9) = 20");
        Edge.run("15", "6 its head, NONE if its queue is empty",
            "addFlow(1) = 0; addFlow(1) = 1; flow(0, 6) = NONE; offer(1, 1, 0) = 0; flow(0, 6) = NONE; offer(0, 1, 0) = 1; flow(0, 6) = 1; cancel(1) = 0; flow(0, 6) = NONE; flow(1, 6) = 0; advance(1) = 1; flow(1, 6) = 0",
            "advance(3) = 4; flow(1, 6) = NONE");
        Edge.run("15", "7 the length in its queue that was not sent yet",
            "addFlow(1) = 0; flow(0, 7) = 0; rule(HEADER, 0) = 2; set(0, SPLIT, 2) = 0; offer(0, 3, 0) = 0; offer(0, 2000, 0) = 1; flow(0, 7) = 2003; advance(1) = 1; flow(0, 7) = 2003; advance(1) = 2; flow(0, 7) = 2003",
            "advance(1) = 3; flow(0, 7) = 2001; advance(1) = 4; flow(0, 7) = 2000; flow(0, 8) = 3; cancel(1) = NOT_POSSIBLE; advance(2) = 6; flow(0, 7) = 1998");
        Edge.run("15", "11 its idleness", "addFlow(1) = 0; flow(0, 11) = 0; advance(2000) = 2000; flow(0, 11) = 2000; set(0, PATIENCE, 1000) = 0; advance(1) = 2001; flow(0, 11) = 0; advance(999) = 3000; flow(0, 11) = 999; advance(1) = 3001; flow(0, 11) = 0");
    }

    private static void flowCounts() {
        Edge.run("15", "12 the greatest delay of a DELIVERED packet (0 if there is none); 13 the sum of these delays",
            "addFlow(1) = 0; rule(HEADER, 0) = 2; flow(0, 12) = 0; flow(0, 13) = 0; offer(0, 9, 0) = 0; advance(9) = 9; flow(0, 12) = 0; flow(0, 13) = 0; advance(1) = 10; flow(0, 12) = 10; flow(0, 13) = 10; offer(0, 1, 0) = 1",
            "offer(0, 1, 0) = 2; cancel(2) = 1; advance(2) = 12; flow(0, 12) = 10; flow(0, 13) = 12; advance(50) = 62; flow(0, 12) = 10; flow(0, 13) = 12");
        Edge.run("15", "10 how many of these were late",
            "addFlow(1) = 0; rule(HEADER, 0) = 2; rule(PROMOTION, 0) = 1; offer(0, 1, 2) = 0; offer(0, 1, 2) = 1; offer(0, 1, 1) = 2; cancel(2) = 2; advance(2) = 2; flow(0, 10) = 0; advance(1) = 3; flow(0, 10) = 1; advance(9) = 12; flow(0, 10) = 1",
            "flow(0, 9) = 2; set(0, SPLIT, 1) = 0; rule(JOINING, 9) = 1; offer(0, 2, 11) = 3; offer(0, 2, 4) = 4; advance(5) = 17; packet(4, 4) = SENT; flow(0, 10) = 1; advance(7) = 24; packet(3, 8) = 24; flow(0, 10) = 2; advance(2) = 26; flow(0, 10) = 3");
        Edge.run("15", "14 how many packets it was offered (and accepted)",
            "addFlow(1) = 0; flow(0, 14) = 0; set(0, ROOM, 2) = 20; offer(0, 0, 0) = BAD_VALUE; flow(0, 14) = 0; offer(0, 1, 0) = 0; flow(0, 14) = 1; put(\"a1*9\") = 4; load() = 1; flow(0, 14) = 2; offer(0, 1, 0) = TOO_MANY; flow(0, 14) = 2",
            "cancel(0) = 1; flow(0, 14) = 2; advance(50) = 50; flow(0, 14) = 2; flow(0, 9) = 1");
        // What is counted of a flow goes on counting when its packets are not known any more.
        Script old = Edge.of("15", "9 packets that were DELIVERED").calls("addFlow(1) = 0; rule(HEADER, 0) = 2");
        for (int round = 1; round <= 9; round++) {
            old.calls("put(\"a1@1*9,a\") = 8; put(\"1@1*9\") = 13; load() = 18; advance(20) = " + 20 * round + "; flow(0, 9) = " + 18 * round + "; flow(0, 10) = " + 18 * round + "; flow(0, 8) = " + 18 * round);
            old.calls("flow(0, 12) = 19; flow(0, 13) = " + 189 * round + "; flow(0, 14) = " + 18 * round + "; link(6) = " + 18 * round + "; link(15) = " + 18 * round + "; link(16) = " + Math.max(0, 18 * round - 120));
        }
    }

    private static void flowErrors() {
        Script script = Edge.of("15", "BAD_VALUE if what is out of range").calls("addFlow(9) = 0; flow(0, -1) = BAD_VALUE; flow(0, 0) = 9; flow(0, 14) = 0; flow(0, 15) = BAD_VALUE; flow(0, LEAST_INT) = BAD_VALUE; flow(0, GREATEST_INT) = BAD_VALUE");
        for (int flow = 1; flow < 6; flow++) {
            script.calls("flow(" + flow + ", 0) = NO_SUCH; flow(" + flow + ", 15) = NO_SUCH; addFlow(9) = " + flow + "; flow(" + flow + ", 0) = 9; flow(" + flow + ", 15) = BAD_VALUE; flow(" + flow + ", -1) = BAD_VALUE");
        }
        script.calls("flow(6, 0) = NO_SUCH; flow(6, 15) = NO_SUCH");
        Edge.run("15", "NO_SUCH if there is no such flow; BAD_VALUE if what is out of range",
            "flow(0, 0) = NO_SUCH; flow(0, 15) = NO_SUCH; flow(-1, 0) = NO_SUCH; addFlow(1) = 0; flow(-1, -1) = NO_SUCH; flow(1, 15) = NO_SUCH; flow(LEAST_INT, 99) = NO_SUCH; flow(GREATEST_INT, -99) = NO_SUCH; flow(0, 15) = BAD_VALUE");
    }

    private static void amount() {
        Edge.run("16", "2 its debt; 3 its forgiven amount",
            "addFlow(1) = 0; rule(HEADER, 0) = 2; set(0, PATIENCE, 2) = 0; amount(0, 2) = 0; amount(0, 3) = 0; offer(0, 2000, 0) = 0; amount(0, 0) = 2000*UNIT; amount(0, 2) = 0; advance(2000) = 2000; amount(0, 2) = 0; advance(1) = 2001",
            "amount(0, 2) = 2000*UNIT; amount(0, 3) = 0; advance(1) = 2002; amount(0, 2) = 0; amount(0, 3) = 2000*UNIT; amount(0, 0) = 0");
        Edge.run("16", "1 its tag, or its finish if its queue is empty",
            "addFlow(1) = 0; rule(HEADER, 0) = 2; amount(0, 1) = 0; offer(0, 3, 0) = 0; amount(0, 0) = 3*UNIT; amount(0, 1) = 0; cancel(0) = 0; amount(0, 1) = 3*UNIT; offer(0, 2, 0) = 1; amount(0, 1) = 3*UNIT; amount(0, 0) = 5*UNIT; advance(2) = 2",
            "amount(0, 1) = 3*UNIT; advance(1) = 3; amount(0, 1) = 5*UNIT");
        Edge.run("16", "4 its fluid that is left; 5 its fluid service; 6 its lag",
            "addFlow(1) = 0; amount(0, 4) = 0; amount(0, 5) = 0; amount(0, 6) = 0; offer(0, 2, 0) = 0; amount(0, 4) = 2*UNIT; advance(1) = 1; amount(0, 4) = UNIT; amount(0, 5) = UNIT; amount(0, 6) = UNIT; advance(1) = 2; amount(0, 4) = 0",
            "amount(0, 5) = 2*UNIT; advance(1) = 3; amount(0, 5) = 2*UNIT; amount(0, 6) = 2*UNIT; advance(2) = 5; amount(0, 6) = 0");
        Edge.run("16", "7 the greatest lag that it had at the end of a tick (0 at first)",
            "addFlow(1) = 0; addFlow(1) = 1; amount(0, 7) = 0; rule(HEADER, 0) = 2; offer(0, 1, 0) = 0; amount(0, 7) = 0; advance(1) = 1; amount(0, 7) = UNIT; offer(0, 1, 0) = 1; advance(1) = 2; amount(0, 6) = UNIT; amount(0, 7) = UNIT; advance(1) = 3",
            "amount(0, 6) = 0; amount(0, 7) = UNIT; advance(5) = 8; amount(0, 7) = UNIT; amount(1, 7) = 0");
        // Sent before its fluid came: the lag is below 0, the greatest one stays 0 as at first until it is above.
        Edge.run("16", "7 the greatest lag that it had at the end of a tick (0 at first)",
            "addFlow(1) = 0; addFlow(16) = 1; rule(HEADER, 0) = 2; offer(1, 2000, 0) = 0; offer(0, 2, 0) = 1; advance(3) = 3; flow(0, 8) = 2; amount(0, 5) = 127185; amount(0, 6) = -1314255; amount(0, 7) = 84790; advance(20) = 23; amount(0, 7) = 84790");
        Edge.run("16", "7 the greatest lag that it had at the end of a tick (0 at first)",
            "addFlow(1) = 0; rule(HEADER, 50) = 2; offer(0, 1, 0) = 0; advance(51) = 51; amount(0, 6) = UNIT; cancel(0) = NOT_POSSIBLE; offer(0, 5, 0) = 1; cancel(1) = 1; advance(1) = 52; flow(0, 8) = 1; amount(0, 6) = UNIT; amount(0, 7) = UNIT; advance(4) = 56",
            "amount(0, 6) = 5*UNIT; amount(0, 7) = 5*UNIT");
        Edge.run("16", "BAD_VALUE if what is out of range",
            "addFlow(1) = 0; amount(0, -1) = GONE+BAD_VALUE; amount(0, 0) = 0; amount(0, 7) = 0; amount(0, 8) = GONE+BAD_VALUE; amount(0, LEAST_INT) = GONE+BAD_VALUE; amount(0, GREATEST_INT) = GONE+BAD_VALUE");
        Edge.run("16", "GONE plus an error code: NO_SUCH if there is no such flow; BAD_VALUE if what is out of range",
            "amount(0, 0) = GONE+NO_SUCH; amount(0, 8) = GONE+NO_SUCH; amount(-1, 0) = GONE+NO_SUCH; addFlow(1) = 0; amount(1, 0) = GONE+NO_SUCH; amount(1, -1) = GONE+NO_SUCH; amount(-1, 8) = GONE+NO_SUCH; amount(LEAST_INT, 0) = GONE+NO_SUCH",
            "amount(GREATEST_INT, 0) = GONE+NO_SUCH; amount(0, 8) = GONE+BAD_VALUE; addFlow(1) = 1; addFlow(1) = 2; addFlow(1) = 3; addFlow(1) = 4; addFlow(1) = 5; amount(5, 0) = 0; amount(6, 0) = GONE+NO_SUCH");
    }

    private static void virtualTime() {
        Edge.run("17", "Returns the virtual time V.",
            "virtualTime() = 0; addFlow(16) = 0; rule(HEADER, 0) = 2; virtualTime() = 0; offer(0, 1, 0) = 0; offer(0, 2000, 0) = 1; offer(0, 1, 0) = 2; virtualTime() = 0; advance(1) = 1; virtualTime() = 0; advance(1) = 2; virtualTime() = 45045",
            "advance(1999) = 2001; virtualTime() = 45045; advance(1) = 2002; virtualTime() = 2001*45045; advance(500) = 2502; virtualTime() = 2001*45045");
    }

    private static void linkPiece() {
        Edge.run("18", "7 the packet of which a piece is being sent, NONE if there is none; 8 the length of this piece (0 without one); 9 the ticks that are left for it (0 without one); 10 whether it is promoted (1 or 0)",
            "link(7) = NONE; link(8) = 0; link(9) = 0; link(10) = 0; addFlow(1) = 0; offer(0, 2, 1) = 0; offer(0, 1, 0) = 1; link(7) = NONE; link(8) = 0; link(9) = 0; link(10) = 0; advance(1) = 1; link(7) = 0; link(8) = 2; link(9) = 4; link(10) = 1",
            "advance(3) = 4; link(7) = 0; link(8) = 2; link(9) = 1; link(10) = 1; advance(1) = 5; link(7) = 1; link(8) = 1; link(9) = 3; link(10) = 0; advance(3) = 8; link(7) = NONE; link(8) = 0; link(9) = 0; link(10) = 0");
        Edge.run("18", "11 the length of the pad", "link(11) = 0; put(\"abcdefgh\") = 8; link(11) = 8; put(\"a\") = 9; link(11) = 9; put(0) = BAD_VALUE; link(11) = 9; wipe() = 9; link(11) = 0");
        Edge.run("18", "0 the time; 1 to 4 the setting HEADER to PROMOTION", "link(0) = 0; rule(HEADER, 50) = 2; rule(JOINING, 49) = 1; rule(MARGIN, 1000) = 10; rule(PROMOTION, 0) = 1; link(1) = 50; link(2) = 49; link(3) = 1000; link(4) = 0; link(5) = 0");
        Edge.run("18", "BAD_VALUE if what is out of range", "link(-1) = BAD_VALUE; link(0) = 0; link(16) = NONE; link(17) = BAD_VALUE; link(LEAST_INT) = BAD_VALUE; link(GREATEST_INT) = BAD_VALUE; addFlow(1) = 0; offer(0, 1, 0) = 0; link(17) = BAD_VALUE; link(16) = 0");
    }

    private static void linkCounts() {
        Edge.run("18", "5 the number of flows", "link(5) = 0; addFlow(0) = BAD_VALUE; link(5) = 0; addFlow(1) = 0; link(5) = 1; addFlow(1) = 1; addFlow(1) = 2; addFlow(1) = 3; addFlow(1) = 4; addFlow(1) = 5; link(5) = 6; addFlow(1) = TOO_MANY; link(5) = 6");
        Edge.run("18", "6 the number of packets that were offered (and accepted)",
            "link(6) = 0; addFlow(1) = 0; set(0, ROOM, 1) = 20; offer(0, 0, 0) = BAD_VALUE; link(6) = 0; offer(0, 1, 0) = 0; link(6) = 1; offer(0, 1, 0) = TOO_MANY; link(6) = 1; cancel(0) = 0; link(6) = 1; put(\"a1*9\") = 4; load() = 1; link(6) = 2");
        Edge.run("18", "12 ticks in which a piece was being sent at their beginning",
            "addFlow(1) = 0; link(12) = 0; advance(3) = 3; link(12) = 0; offer(0, 1, 0) = 0; offer(0, 1, 0) = 1; advance(1) = 4; link(12) = 0; advance(1) = 5; link(12) = 1; advance(2) = 7; link(12) = 3; link(7) = 1; advance(3) = 10; link(12) = 6",
            "link(7) = NONE; advance(1) = 11; link(12) = 6");
        Edge.run("18", "13 ticks of headers of pieces that have been sent",
            "addFlow(1) = 0; set(0, SPLIT, 1) = 0; rule(HEADER, 50) = 2; offer(0, 2, 0) = 0; link(13) = 0; advance(51) = 51; link(13) = 0; advance(1) = 52; link(13) = 50; rule(HEADER, 0) = 50; advance(50) = 102; link(13) = 50; advance(1) = 103; link(13) = 100",
            "offer(0, 1, 0) = 1; advance(2) = 105; link(15) = 3; link(13) = 100");
        Edge.run("18", "15 pieces that have been sent",
            "addFlow(1) = 0; set(0, SPLIT, 1) = 0; rule(HEADER, 0) = 2; offer(0, 500, 0) = 0; link(15) = 0; advance(1) = 1; link(15) = 0; advance(1) = 2; link(15) = 1; advance(59) = 61; link(15) = 60; advance(1) = 62; link(15) = 61; advance(439) = 501; link(15) = 500",
            "advance(9) = 510; link(15) = 500");
    }

    private static void linkNext() {
        String sentence = "14 the flow whose head would be the next one now, if no piece were being sent (the one that is being sent taken as if its piece were not), NONE if all queues are empty";
        Edge.run("18", sentence,
            "link(14) = NONE; addFlow(1) = 0; addFlow(1) = 1; link(14) = NONE; offer(1, 9, 0) = 0; link(14) = 1; advance(1) = 1; link(7) = 0; link(14) = 1; offer(0, 9, 0) = 1; link(14) = 0; offer(1, 9, 0) = 2; link(14) = 0; advance(11) = 12; link(7) = 1",
            "link(14) = 0; cancel(2) = 0; link(14) = 0; advance(10) = 22; link(14) = 0; advance(1) = 23; link(7) = NONE; link(14) = NONE");
        Edge.run("18", sentence,
            "addFlow(1) = 0; addFlow(1) = 1; rule(HEADER, 0) = 2; set(0, SPLIT, 2) = 0; offer(0, 4, 0) = 0; offer(1, 4, 0) = 1; advance(1) = 1; link(7) = 0; link(14) = 0; advance(2) = 3; link(7) = 1; link(14) = 1; amount(0, 1) = 2*UNIT; set(1, WEIGHT, 16) = 1; link(14) = 1",
            "advance(4) = 7; link(7) = 0; link(14) = 0");
        Edge.run("18", sentence,
            "addFlow(1) = 0; addFlow(1) = 1; rule(HEADER, 0) = 2; rule(MARGIN, 0) = 10; offer(0, 20, 0) = 0; offer(1, 4, 6) = 1; link(14) = 0; advance(1) = 1; link(7) = 0; link(14) = 0; advance(1) = 2; link(14) = 1; rule(MARGIN, 1) = 0; rule(PROMOTION, 0) = 1",
            "link(14) = 0; virtualTime() = 0");
    }

    private static void linkOldest() {
        Script script = Edge.of("18", "16 the oldest packet that is known, NONE if there is none").calls("link(16) = NONE; addFlow(1) = 0; addFlow(1) = 1; link(16) = NONE; offer(0, 0, 0) = BAD_VALUE; link(16) = NONE; offer(1, 1, 0) = 0; link(16) = 0; cancel(0) = 0; link(16) = 0");
        EdgesOfPacketsTest.fill(script, 1, 118);
        script.calls("link(6) = 119; link(16) = 0; offer(1, 1, 0) = 119; link(6) = 120; link(16) = 0; packet(0, 4) = CANCELED; offer(1, 1, 0) = 120; link(16) = 1; packet(0, 4) = NO_SUCH; packet(1, 4) = CANCELED; offer(1, 1, 0) = 121; link(16) = 2");
    }

    private static void piece() {
        String known = "Returns a property of a piece that has been sent, of which the latest 60 are known.";
        // The piece k is sent at the time k + 2; at a time t there are t - 1 of them.
        Script script = Edge.of("19", known).calls("piece(0, 3) = NONE; addFlow(1) = 0; set(0, SPLIT, 1) = 0; rule(HEADER, 0) = 2; offer(0, 500, 0) = 0; advance(1) = 1; piece(0, 3) = NONE");
        int time = 1;
        for (int count : new int[] {1, 2, 59, 60, 61, 62, 119, 120, 121, 180, 181, 299, 300, 301, 460}) {
            int oldest = Math.max(0, count - 60);
            int middle = (count + oldest) / 2;
            script.calls("advance(" + (count + 1 - time) + ") = " + (count + 1) + "; link(15) = " + count + "; piece(" + (oldest - 1) + ", 3) = NONE; piece(" + oldest + ", 3) = " + (oldest + 2))
                .calls("piece(" + (count - 1) + ", 3) = " + (count + 1) + "; piece(" + count + ", 3) = NONE; piece(" + middle + ", 3) = " + (middle + 2));
            time = count + 1;
        }
        Edge.run("19", known,
            "addFlow(1) = 0; addFlow(1) = 1; rule(HEADER, 0) = 2; set(0, SPLIT, 60) = 0; offer(0, 61, 0) = 0; offer(1, 1, 0) = 1; advance(60) = 60; piece(0, 0) = NONE; advance(1) = 61; piece(0, 0) = 0; piece(0, 1) = 0; piece(0, 2) = 60; piece(0, 3) = 61; piece(0, 4) = 0",
            "advance(2) = 63; piece(1, 0) = 1; piece(1, 1) = 1; piece(1, 2) = 1; piece(1, 3) = 62; piece(2, 0) = 0; piece(2, 1) = 0; piece(2, 2) = 1; piece(2, 3) = 63; piece(3, 0) = NONE");
        Edge.run("19", "4 whether it was promoted (1 or 0)",
            "addFlow(1) = 0; rule(HEADER, 0) = 2; offer(0, 1, 1) = 0; offer(0, 1, 0) = 1; advance(3) = 3; piece(0, 4) = 1; piece(1, 4) = 0; rule(PROMOTION, 0) = 1; piece(0, 4) = 1");
    }

    private static void pieceErrors() {
        Script unknown = Edge.of("19", "NONE if there is no such piece, or it is not known any more").calls("addFlow(1) = 0; set(0, SPLIT, 1) = 0; rule(HEADER, 0) = 2; offer(0, 90, 0) = 0");
        dueNoPieces(unknown, "-1", "0", "1", "59", "60", "LEAST_INT", "GREATEST_INT");
        unknown.calls("advance(4) = 4; piece(2, 2) = 1");
        dueNoPieces(unknown, "-1", "-57", "-60", "3", "4", "60", "63", "LEAST_INT", "GREATEST_INT");
        unknown.calls("advance(60) = 64; piece(2, 2) = NONE; piece(3, 2) = 1; piece(62, 2) = 1");
        dueNoPieces(unknown, "-1", "0", "2", "63", "64", "122", "123", "LEAST_INT", "GREATEST_INT");
        Edge.run("19", "number of the piece, from 0 for the first one that was sent",
            "addFlow(1) = 0; rule(HEADER, 0) = 2; offer(0, 1, 0) = 0; offer(0, 2, 0) = 1; advance(4) = 4; piece(-1, 0) = NONE; piece(0, 0) = 0; piece(1, 0) = 1; piece(2, 0) = NONE; piece(LEAST_INT, 0) = NONE; piece(GREATEST_INT, 0) = NONE");
        Edge.run("19", "NONE if there is no such piece, or it is not known any more; BAD_VALUE if what is out of range",
            "piece(0, 0) = NONE; piece(0, 4) = NONE; piece(0, 5) = BAD_VALUE; piece(0, -1) = BAD_VALUE; piece(-1, 5) = BAD_VALUE; piece(GREATEST_INT, LEAST_INT) = BAD_VALUE; piece(LEAST_INT, GREATEST_INT) = BAD_VALUE; addFlow(1) = 0",
            "set(0, SPLIT, 1) = 0; rule(HEADER, 0) = 2; offer(0, 61, 0) = 0; advance(61) = 61; piece(0, 0) = 0; piece(0, 5) = BAD_VALUE; piece(0, -1) = BAD_VALUE; piece(0, 4) = 0; advance(1) = 62; piece(0, 0) = NONE; piece(0, 5) = BAD_VALUE; piece(1, 0) = 0");
    }

    private static void dueNoPieces(Script script, String... pieces) {
        for (String piece : pieces) {
            for (int what = 0; what <= 4; what++) {
                script.calls("piece(" + piece + ", " + what + ") = NONE");
            }
        }
    }

    private static void apart() {
        Edge.run("20", "GONE + NO_SUCH if there is no such flow",
            "apart(0, 0) = GONE+NO_SUCH; addFlow(1) = 0; apart(0, 0) = 0; apart(0, 1) = GONE+NO_SUCH; apart(1, 0) = GONE+NO_SUCH; apart(1, 1) = GONE+NO_SUCH; apart(-1, 0) = GONE+NO_SUCH; apart(0, -1) = GONE+NO_SUCH; apart(0, LEAST_INT) = GONE+NO_SUCH",
            "apart(GREATEST_INT, 0) = GONE+NO_SUCH; apart(LEAST_INT, 0) = GONE+NO_SUCH; apart(0, GREATEST_INT) = GONE+NO_SUCH; addFlow(1) = 1; addFlow(1) = 2; addFlow(1) = 3; addFlow(1) = 4; addFlow(1) = 5; apart(0, 5) = 0; apart(5, 0) = 0",
            "apart(0, 6) = GONE+NO_SUCH; apart(6, 0) = GONE+NO_SUCH; apart(6, 6) = GONE+NO_SUCH");
        Edge.run("20", "|sent of one / its weight - sent of the other / its weight|, in units of 1 / UNIT, with the weights as they are",
            "addFlow(1) = 0; addFlow(16) = 1; addFlow(3) = 2; rule(HEADER, 0) = 2; offer(0, 1, 0) = 0; offer(1, 16, 0) = 1; advance(1) = 1; apart(0, 1) = 0; advance(1) = 2; apart(0, 1) = UNIT; apart(1, 0) = UNIT; apart(0, 0) = 0; advance(16) = 18",
            "apart(0, 1) = 0; apart(1, 0) = 0; apart(1, 2) = UNIT; apart(2, 1) = UNIT; set(1, WEIGHT, 15) = 16; apart(0, 1) = 48048; apart(1, 0) = 48048; set(0, WEIGHT, 16) = 1; set(1, WEIGHT, 1) = 15; apart(0, 1) = 16*UNIT+-45045; set(2, WEIGHT, 16) = 3; apart(2, 0) = 45045");
    }
}
