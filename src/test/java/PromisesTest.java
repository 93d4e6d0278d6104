/**
 * What the sections of the document say first, and the sentences of "Terms" that name no boundary case: each call in
 * ordinary use. DocumentTest sees that no sentence is left out.
 */
public final class PromisesTest {
    private static final String TERMS = "Terms";

    public static void main(String[] args) {
        terms();
        ticks();
        grammar();
        settings();
        packets();
        texts();
        time();
        numbersOfFlows();
        numbersOfLink();
        forecasts();
        saving();
        Script.end();
    }

    private static void terms() {
        Edge.run(TERMS, "A method that fails returns one of the error codes NO_SUCH (-1), BAD_VALUE (-2), BAD_TEXT (-3), TOO_MANY (-4) and NOT_POSSIBLE (-5)",
            "offer(0, 1, 0) = -1; addFlow(17) = -2; load() = -3; addFlow(1) = 0; set(0, ROOM, 1) = 20; offer(0, 1, 0) = 0; offer(0, 1, 0) = -4; advance(1) = 1; cancel(0) = -5");
        // Each call here has several errors; offer's third one is seen when the others are mended.
        Edge.run(TERMS, "it names its errors in the order in which they are checked, and the first one that applies is returned",
            "set(0, 9, -1) = NO_SUCH; offer(0, 0, -1) = NO_SUCH; packet(0, 10) = NO_SUCH; flow(0, 15) = NO_SUCH; amount(0, 8) = GONE+NO_SUCH; forecast(0, 0) = NO_SUCH; leastWeight(0, 0) = NO_SUCH; bestSplit(0, -1, 0, 0, 0) = NO_SUCH",
            "addFlow(1) = 0; set(0, 9, -1) = BAD_VALUE; bestSplit(0, -1, 0, 0, 0) = BAD_VALUE; bestSplit(0, 0, 1, 1, 1) = NOT_POSSIBLE; set(0, ROOM, 1) = 20; offer(0, 1, 0) = 0; offer(0, 0, -1) = BAD_VALUE; offer(0, 1, 0) = TOO_MANY",
            "cancel(0) = 0; leastWeight(0, 0) = BAD_VALUE; leastWeight(0, 1) = NOT_POSSIBLE; put(\"f1,\") = 3; load() = BAD_TEXT; put(\"f1\") = 5; load() = NO_SUCH; restore(2) = BAD_VALUE; restore(1) = NOT_POSSIBLE");
        // RefusedTest has every refused call; here are some of them together.
        Edge.run(TERMS, "A call that returns an error changes nothing.",
            "addFlow(2) = 0; offer(0, 6, 0) = 0; put(\"b1\") = 2; advance(2) = 2; addFlow(0) = BAD_VALUE; set(0, SPLIT, 1001) = BAD_VALUE; rule(HEADER, 51) = BAD_VALUE; offer(0, 2001, 0) = BAD_VALUE; cancel(0) = NOT_POSSIBLE",
            "put(32) = BAD_VALUE; load() = NO_SUCH; advance(2001) = BAD_VALUE; awaitDelivery(0) = BAD_VALUE; save(2) = BAD_VALUE; restore(0) = NOT_POSSIBLE; link(0) = 2; link(1) = 2; link(5) = 1; link(6) = 1; link(9) = 7; link(11) = 2",
            "flow(0, 2) = 0; flow(0, 5) = 1; amount(0, 0) = 3*UNIT; amount(0, 4) = 4*UNIT; packet(0, 4) = SENDING; awaitDelivery(7) = 0; link(0) = 9");
        Edge.run(TERMS, "The share unit is UNIT = 720720",
            "addFlow(1) = 0; offer(0, 1, 0) = 0; amount(0, 0) = 720720; amount(0, 4) = 720720; advance(4) = 4; apart(0, 0) = 0; amount(0, 5) = 720720");
        Edge.run(TERMS, "A flow has these settings (in parentheses: range; first value):",
            "addFlow(1) = 0; flow(0, WEIGHT) = 1; flow(0, ROOM) = 20; flow(0, SPLIT) = 0; flow(0, PATIENCE) = 0; flow(0, MERCY) = 2",
            "set(0, WEIGHT, 16) = 1; set(0, ROOM, 1) = 20; set(0, SPLIT, 1000) = 0; set(0, PATIENCE, 1000) = 0; set(0, MERCY, 0) = 2");
        Edge.run(TERMS, "The link has these settings:",
            "link(1) = 2; link(2) = 1; link(3) = 10; link(4) = 1; rule(HEADER, 50) = 2; rule(JOINING, 50) = 1; rule(MARGIN, 1000) = 10; rule(PROMOTION, 0) = 1");
        Script integers = Edge.of(TERMS, "Starts and finishes are counted in units of 1 / UNIT, so that they are integers.").calls("addFlow(1) = 0");
        long finish = 0;
        for (int weight = 1; weight <= 16; weight++) {
            String number = "" + (weight - 1);
            integers.calls("set(0, WEIGHT, " + weight + ") = " + Math.max(1, weight - 1) + "; offer(0, 7, 0) = " + number + "; start(" + number + ") = " + finish);
            finish += 7L * 720720 / weight;
            integers.calls("amount(0, 0) = " + finish);
        }
    }

    private static void ticks() {
        Edge.run(TERMS, "These steps are made in each tick: 1. The time increases by 1.",
            "advance(1) = 1; link(0) = 1; awaitDelivery(1) = NONE; link(0) = 2; addFlow(1) = 0; offer(0, 1, 0) = 0; advance(1) = 3; link(7) = 0; link(0) = 3");
        // Step 2 comes before step 6: the piece that ends makes place for the next one in the same tick.
        Edge.run(TERMS, "These steps are made in each tick",
            "addFlow(1) = 0; rule(HEADER, 0) = 2; set(0, SPLIT, 1) = 0; rule(JOINING, 2) = 1; offer(0, 2, 0) = 0; offer(0, 1, 0) = 1; advance(1) = 1; link(7) = 0; advance(1) = 2; link(15) = 1; link(7) = 0; advance(1) = 3; packet(0, 4) = SENT",
            "link(7) = 1; awaitDelivery(5) = 1; link(0) = 4; awaitDelivery(5) = 0; link(0) = 5");
        // Step 4 comes before step 6: a debt is forgiven down to the V that the tick found.
        Edge.run(TERMS, "4. For each flow, in ascending order: if its queue is empty, its idleness increases by 1, otherwise it becomes 0.",
            "addFlow(1) = 0; addFlow(1) = 1; addFlow(1) = 2; rule(HEADER, 0) = 2; set(0, PATIENCE, 1) = 0; set(1, PATIENCE, 2) = 0; offer(0, 3, 0) = 0; offer(1, 3, 0) = 1; offer(2, 2, 0) = 2; offer(2, 2, 0) = 3; advance(4) = 4",
            "flow(0, 11) = 0; amount(0, 0) = 0; amount(0, 3) = 3*UNIT; flow(1, 11) = 0; flow(2, 11) = 0; advance(5) = 9; link(7) = 3; virtualTime() = 2*UNIT; amount(1, 0) = 0; amount(1, 3) = 3*UNIT; flow(0, 11) = 0; flow(1, 11) = 1");
        Edge.run(TERMS, "5. The fluid link: let W be the sum of the weights of all flows that have fluid left.",
            "addFlow(1) = 0; addFlow(2) = 1; addFlow(3) = 2; offer(0, 5, 0) = 0; offer(1, 5, 0) = 1; advance(1) = 1; amount(0, 5) = 240240; amount(1, 5) = 480480; amount(2, 5) = 0; offer(2, 5, 0) = 2; advance(1) = 2",
            "amount(0, 5) = 360360; amount(1, 5) = 720720; amount(2, 5) = 360360");
        Edge.run(TERMS, "6. If no piece is being sent, and some queue is not empty, the next piece begins (see below).",
            "addFlow(1) = 0; offer(0, 5, 0) = 0; link(7) = NONE; advance(1) = 1; link(7) = 0; link(9) = 7; advance(6) = 7; link(9) = 1; advance(1) = 8; link(7) = NONE");
        Edge.run(TERMS, "Its rest takes, with r as the length that was not sent yet and s as SPLIT: HEADER + r, if s is 0 or r is at most s",
            "addFlow(1) = 0; rule(MARGIN, 0) = 10; offer(0, 5, 7) = 0; offer(0, 5, 8) = 1; packet(0, 9) = 1; packet(1, 9) = 0; set(0, SPLIT, 5) = 0; packet(0, 9) = 1; packet(1, 9) = 0; set(0, SPLIT, 4) = 5; packet(1, 9) = 1");
        Edge.run(TERMS, "The next piece is of the head of this flow: if some heads are urgent, the one with the earliest deadline",
            "addFlow(1) = 0; addFlow(1) = 1; addFlow(1) = 2; offer(0, 5, 0) = 0; offer(1, 5, 9) = 1; offer(2, 5, 8) = 2; offer(2, 5, 1) = 3; link(14) = 2; advance(1) = 1; link(7) = 2; link(10) = 1; advance(7) = 8; link(7) = 3; advance(7) = 15",
            "link(7) = 1; link(10) = 1; advance(7) = 22; link(7) = 0; link(10) = 0");
    }

    private static void grammar() {
        Edge.run(TERMS, "The pad is a text of at most 80 characters, from which arrivals are read:",
            "link(11) = 0; addFlow(1) = 0; put(\"a12@34*2\") = 8; link(11) = 8; load() = 2; link(11) = 0; packet(0, 1) = 12; packet(1, 1) = 12; packet(0, 3) = 34; packet(1, 3) = 34");
        String arrivals = "arrivals = arrival { \",\" arrival }";
        String arrival = "arrival = \"a\" to \"f\" length [ \"@\" number ] [ \"*\" count ]";
        String[] forms = {"2", "2@3", "2*4", "2@3*4"};
        for (char letter = 'a'; letter <= 'f'; letter++) {
            for (String form : forms) {
                Edge.run(TERMS, arrival, "put(\"" + letter + form + "\") = " + (1 + form.length()) + "; fault() = NONE");
            }
            Edge.run(TERMS, arrival, "put(\"" + letter + "2*4@3\") = 6; fault() = 4; wipe() = 6; put(\"" + letter + "@3\") = 3; fault() = 1; wipe() = 3; put(\"2" + letter + "\") = 2; fault() = 0");
        }
        for (String one : forms) {
            for (String other : forms) {
                int length = one.length() + other.length() + 3;
                int due = (one.endsWith("*4") ? 4 : 1) + (other.endsWith("*4") ? 4 : 1);
                Edge.run(TERMS, arrivals, "addFlow(1) = 0; addFlow(1) = 1; put(\"a" + one + "\") = " + (1 + one.length()) + "; put(\",b" + other + "\") = " + length,
                    "fault() = NONE; load() = " + due + "; link(6) = " + due + "; packet(0, 0) = 0; packet(" + (due - 1) + ", 0) = 1");
            }
        }
        Edge.run(TERMS, arrivals, "put(\"a1,,b1\") = 6; fault() = 3; wipe() = 6; put(\",a1\") = 3; fault() = 0; wipe() = 3; put(\"a1b1\") = 4; fault() = 2; wipe() = 4; put(\"a1;b1\") = 5; fault() = 2");
    }

    private static void settings() {
        Edge.run("1", "Creates a link without flows.", "link(5) = 0; link(6) = 0; link(14) = NONE; flow(0, 0) = NO_SUCH; link(0) = 0; advance(3) = 3; link(7) = NONE");
        Edge.run("2", "Adds a flow.", "link(5) = 0; addFlow(3) = 0; link(5) = 1; flow(0, 0) = 3; offer(0, 3, 0) = 0; amount(0, 0) = UNIT");
        Edge.run("2", "Returns its number", "addFlow(4) = 0; addFlow(5) = 1; addFlow(6) = 2; flow(0, 0) = 4; flow(1, 0) = 5; flow(2, 0) = 6");
        Edge.run("3", "Changes a setting of a flow.", "addFlow(1) = 0; addFlow(1) = 1; set(1, SPLIT, 5) = 0; flow(1, 2) = 5; flow(0, 2) = 0; offer(1, 9, 0) = 0; advance(1) = 1; link(8) = 5; set(1, WEIGHT, 3) = 1; flow(1, 0) = 3");
        Edge.run("4", "Changes a setting of the link.", "rule(HEADER, 5) = 2; link(1) = 5; link(2) = 1; link(3) = 10; link(4) = 1; addFlow(1) = 0; offer(0, 9, 0) = 0; advance(1) = 1; link(9) = 14");
    }

    private static void packets() {
        Edge.run("5", "Offers a packet.", "addFlow(1) = 0; offer(0, 9, 20) = 0; packet(0, 0) = 0; packet(0, 1) = 9; packet(0, 2) = 0; packet(0, 3) = 20; packet(0, 4) = WAITING; flow(0, 5) = 1; flow(0, 7) = 9; awaitDelivery(99) = 0; packet(0, 8) = 12");
        Edge.run("7", "Returns a property of a packet.",
            "addFlow(1) = 0; addFlow(1) = 1; set(1, SPLIT, 5) = 0; advance(4) = 4; offer(1, 9, 7) = 0; advance(10) = 14; packet(0, 0) = 1; packet(0, 1) = 9; packet(0, 2) = 4; packet(0, 3) = 11; packet(0, 4) = SENDING",
            "packet(0, 5) = 5; packet(0, 6) = 1; packet(0, 7) = 1; packet(0, 8) = NONE; packet(0, 9) = 1; advance(5) = 19; packet(0, 4) = DELIVERED; packet(0, 5) = 9; packet(0, 6) = 2; packet(0, 7) = 2; packet(0, 8) = 19; packet(0, 9) = 0");
        Edge.run("7", "`what`: 0 its flow; 1 its length; 2 the time at which it was offered",
            "addFlow(1) = 0; addFlow(1) = 1; offer(1, 6, 0) = 0; advance(30) = 30; offer(0, 7, 0) = 1; packet(0, 0) = 1; packet(0, 1) = 6; packet(0, 2) = 0; packet(1, 0) = 0; packet(1, 1) = 7; packet(1, 2) = 30");
        Edge.run("7", "4 what it is, WAITING to CANCELED; 5 the length that was sent of it; 6 in how many pieces this was",
            "addFlow(1) = 0; set(0, SPLIT, 3) = 0; offer(0, 7, 0) = 0; offer(0, 1, 0) = 1; cancel(1) = 1; packet(1, 4) = CANCELED; packet(0, 4) = WAITING; advance(1) = 1; packet(0, 4) = SENDING; packet(0, 5) = 0; packet(0, 6) = 0; advance(5) = 6",
            "packet(0, 5) = 3; packet(0, 6) = 1; advance(5) = 11; packet(0, 5) = 6; packet(0, 6) = 2; advance(3) = 14; packet(0, 4) = SENT; packet(0, 5) = 7; packet(0, 6) = 3; advance(1) = 15; packet(0, 4) = DELIVERED");
        Edge.run("7", "Returns the property", "addFlow(1) = 0; offer(0, 2000, 9999) = 0; packet(0, 1) = 2000; packet(0, 3) = 9999; packet(0, 4) = 0");
        Edge.run("8", "Returns the start;", "addFlow(2) = 0; offer(0, 3, 0) = 0; offer(0, 5, 0) = 1; offer(0, 1, 0) = 2; start(0) = 0; start(1) = 3*360360; start(2) = 4*UNIT; cancel(1) = 2; start(1) = 3*360360; start(2) = 4*UNIT");
    }

    private static void texts() {
        Edge.run("9", "Appends characters to the pad. They are given as a number:",
            "put(97) = 1; put(49) = 2; fault() = NONE; put(44) = 3; fault() = 3; put(25137) = 5; fault() = NONE; addFlow(1) = 0; addFlow(1) = 1; load() = 2; packet(0, 0) = 0; packet(1, 0) = 1; packet(0, 1) = 1; packet(1, 1) = 1");
        Edge.run("9", "BAD_VALUE if there is no character, a code is not 33 to 126, or a bit above 8 bits that are 0 is not 0",
            "put(0) = BAD_VALUE; put(32) = BAD_VALUE; put(127) = BAD_VALUE; put(24832) = BAD_VALUE; put(6356993) = BAD_VALUE; put(6357089) = BAD_VALUE; put(-1) = BAD_VALUE; link(11) = 0; put(33) = 1; put(126) = 2");
        Edge.run("12", "Returns how many were accepted", "addFlow(1) = 0; put(\"a5*3,a7\") = 7; load() = 4; link(6) = 4; set(0, ROOM, 5) = 20; put(\"a5*3,a7\") = 7; load() = 1; link(6) = 5");
    }

    private static void time() {
        Edge.run("13", "Makes some ticks.", "addFlow(1) = 0; offer(0, 5, 0) = 0; advance(3) = 3; link(9) = 5; advance(5) = 8; packet(0, 4) = DELIVERED; link(12) = 7; advance(2) = 10; flow(0, 11) = 3");
    }

    private static void numbersOfFlows() {
        Edge.run("15", "Returns a number about a flow.", "addFlow(7) = 0; offer(0, 3, 0) = 0; offer(0, 4, 0) = 1; flow(0, 0) = 7; flow(0, 5) = 2; flow(0, 6) = 0; flow(0, 7) = 7; flow(0, 14) = 2; awaitDelivery(9) = 0; flow(0, 6) = 1; flow(0, 9) = 1; flow(0, 12) = 6");
        Edge.run("15", "`what`: 0 to 4 the setting WEIGHT to MERCY", "addFlow(7) = 0; set(0, ROOM, 6) = 20; set(0, SPLIT, 5) = 0; set(0, PATIENCE, 4) = 0; set(0, MERCY, 1) = 2; flow(0, 0) = 7; flow(0, 1) = 6; flow(0, 2) = 5; flow(0, 3) = 4; flow(0, 4) = 1");
        Edge.run("15", "8 the length that was sent of it", "addFlow(1) = 0; addFlow(1) = 1; set(0, SPLIT, 3) = 0; offer(0, 5, 0) = 0; offer(0, 2, 0) = 1; flow(0, 8) = 0; advance(6) = 6; flow(0, 8) = 3; advance(4) = 10; flow(0, 8) = 5; advance(4) = 14; flow(0, 8) = 7; flow(1, 8) = 0");
        Edge.run("15", "Returns the number", "addFlow(16) = 0; flow(0, 0) = 16; flow(0, 5) = 0; advance(9) = 9; flow(0, 11) = 9");
        Edge.run("16", "Returns an amount of a flow in units of 1 / UNIT.", "addFlow(3) = 0; offer(0, 2, 0) = 0; amount(0, 0) = 480480; amount(0, 4) = 1441440; amount(0, 1) = 0; advance(5) = 5; amount(0, 2) = 480480; amount(0, 5) = 1441440; amount(0, 6) = 0; amount(0, 7) = 1441440");
        Edge.run("16", "`what`: 0 its finish", "addFlow(4) = 0; amount(0, 0) = 0; offer(0, 2, 0) = 0; amount(0, 0) = 360360; offer(0, 2, 0) = 1; amount(0, 0) = 720720; advance(99) = 99; amount(0, 0) = 720720");
        Edge.run("16", "Returns the amount", "addFlow(1) = 0; offer(0, 2000, 0) = 0; amount(0, 0) = 1441440000; offer(0, 2000, 0) = 1; amount(0, 0) = 2882880000; amount(0, 4) = 2882880000");
        Edge.run("20", "Returns how far two flows are apart:", "addFlow(1) = 0; addFlow(2) = 1; offer(0, 3, 0) = 0; advance(6) = 6; apart(0, 1) = 3*UNIT; apart(1, 0) = 3*UNIT; offer(1, 4, 0) = 1; advance(7) = 13; apart(0, 1) = UNIT; apart(1, 0) = UNIT");
        Edge.run("20", "Returns the difference", "addFlow(1) = 0; addFlow(1) = 1; offer(0, 2000, 0) = 0; offer(0, 2000, 0) = 1; advance(2000) = 2000; advance(2000) = 4000; advance(5) = 4005; apart(0, 1) = 2882880000; apart(1, 0) = 2882880000; apart(0, 0) = 0");
    }

    private static void numbersOfLink() {
        Edge.run("18", "Returns a number about the link.", "addFlow(1) = 0; offer(0, 5, 0) = 0; link(14) = 0; advance(2) = 2; link(0) = 2; link(5) = 1; link(6) = 1; link(7) = 0; link(8) = 5; link(9) = 6; link(10) = 0; link(12) = 1; link(16) = 0");
        Edge.run("18", "`what`: 0 the time;", "link(0) = 0; advance(2) = 2; link(0) = 2; awaitDelivery(3) = NONE; link(0) = 5; save(0) = 5; advance(1) = 6; restore(0) = 5; link(0) = 5");
        Edge.run("18", "Returns the number; BAD_VALUE if what is out of range.", "link(-1) = BAD_VALUE; link(0) = 0; link(1) = 2; link(16) = NONE; link(17) = BAD_VALUE");
        Edge.run("19", "`piece`: number of the piece, from 0 for the first one that was sent", "addFlow(1) = 0; set(0, SPLIT, 4) = 0; offer(0, 9, 0) = 0; piece(0, 2) = NONE; advance(40) = 40; piece(0, 2) = 4; piece(1, 2) = 4; piece(2, 2) = 1; piece(3, 2) = NONE; piece(-1, 2) = NONE");
        Edge.run("19", "`what`: 0 its packet, 1 its flow, 2 its length, 3 the time at which it had been sent, 4 whether it was promoted (1 or 0)",
            "addFlow(1) = 0; addFlow(1) = 1; offer(0, 3, 0) = 0; offer(1, 4, 1) = 1; advance(12) = 12; piece(0, 0) = 1; piece(0, 1) = 1; piece(0, 2) = 4; piece(0, 3) = 7; piece(0, 4) = 1; piece(1, 0) = 0; piece(1, 1) = 0; piece(1, 2) = 3; piece(1, 3) = 12; piece(1, 4) = 0");
        Edge.run("19", "Returns the property", "addFlow(1) = 0; offer(0, 2000, 0) = 0; advance(2000) = 2000; advance(3) = 2003; piece(0, 2) = 2000; piece(0, 3) = 2003");
    }

    private static void forecasts() {
        Edge.run("21", "`most`: the greatest number of ticks, 1 to 2000", "addFlow(1) = 0; offer(0, 5, 0) = 0; forecast(0, 7) = NONE; forecast(0, 8) = 8; forecast(0, 2000) = 8; forecast(0, 2001) = BAD_VALUE; forecast(0, 0) = BAD_VALUE; forecast(0, 1) = NONE; link(0) = 0");
        Edge.run("22", "Finds the least weight with which a packet would be DELIVERED in time, if the weight of its flow were changed to it now.",
            "addFlow(1) = 0; addFlow(4) = 1; rule(HEADER, 0) = 2; set(0, SPLIT, 1) = 0; set(1, SPLIT, 1) = 0; offer(0, 4, 0) = 0; offer(1, 4, 0) = 1; rule(JOINING, 0) = 1; forecast(0, 99) = 9; leastWeight(0, 9) = 1; leastWeight(0, 8) = 4",
            "leastWeight(0, 7) = 6; leastWeight(0, 6) = 12; leastWeight(0, 5) = NONE; leastWeight(1, 5) = NONE; flow(0, 0) = 1; flow(1, 0) = 4; link(0) = 0; forecast(0, 99) = 9");
        String split = "Finds the SPLIT of a flow with which the greatest delay of the packets that are in queues now, and DELIVERED within some ticks, is least, if it were set now for that flow.";
        // Packet 1 waits longest; it goes ahead of the rest of packet 2 if that is split.
        Edge.run("23", split,
            "addFlow(1) = 0; addFlow(1) = 1; offer(0, 30, 0) = 0; offer(0, 5, 0) = 1; advance(30) = 30; offer(1, 40, 0) = 2; forecast(1, 99) = 52; forecast(2, 99) = 45; bestSplit(1, 0, 30, 2, 99) = 30; flow(1, 2) = 0",
            "set(1, SPLIT, 30) = 0; forecast(1, 99) = 42; forecast(2, 99) = 55; bestSplit(1, 30, 10, 2, 99) = 30; bestSplit(1, 40, 10, 2, 99) = 40; link(0) = 30");
        Edge.run("23", split,
            "addFlow(1) = 0; addFlow(1) = 1; rule(HEADER, 0) = 2; offer(0, 10, 0) = 0; offer(1, 2, 0) = 1; forecast(0, 99) = 11; forecast(1, 99) = 13; bestSplit(0, 0, 5, 3, 99) = 0; flow(0, 2) = 0; link(0) = 0",
            "rule(JOINING, 0) = 1; set(0, SPLIT, 5) = 0; forecast(0, 99) = 13; forecast(1, 99) = 8; set(0, SPLIT, 0) = 5; advance(1) = 1; bestSplit(0, 0, 5, 3, 99) = 0");
    }

    private static void saving() {
        Edge.run("24", "Saves everything except the slots in a slot, and overwrites what was saved there.",
            "addFlow(2) = 0; offer(0, 5, 0) = 0; put(\"a1\") = 2; save(0) = 0; advance(3) = 3; wipe() = 2; addFlow(1) = 1; save(1) = 3; restore(0) = 0; link(5) = 1; link(11) = 2; link(7) = NONE; restore(1) = 3; link(5) = 2; link(11) = 0",
            "save(0) = 3; restore(0) = 3; link(5) = 2; link(9) = 5");
        Edge.run("25", "Restores what was saved last in a slot, which keeps it.",
            "addFlow(2) = 0; save(0) = 0; offer(0, 5, 0) = 0; advance(4) = 4; restore(0) = 0; link(6) = 0; amount(0, 0) = 0; advance(1) = 1; link(7) = NONE; restore(0) = 0; link(0) = 0; offer(0, 6, 0) = 0; packet(0, 1) = 6");
    }
}
