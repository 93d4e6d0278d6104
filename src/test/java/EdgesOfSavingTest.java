/** Boundary cases that the promises 24 and 25 name: save, restore. */
public final class EdgesOfSavingTest {
    private static final String SAVES = "Saves everything except the slots in a slot, and overwrites what was saved there.";
    private static final String RESTORES = "Restores what was saved last in a slot, which keeps it.";

    public static void main(String[] args) {
        slots();
        nothingSaved();
        overwritten();
        kept();
        emptyAndFull();
        greatestNumbers();
        goneRound();
        pad();
        lastTime();
        Script.end();
    }

    private static void slots() {
        Edge.run("24", "`slot`: 0 or 1", "save(-1) = BAD_VALUE; save(0) = 0; save(1) = 0; save(2) = BAD_VALUE; restore(0) = 0; restore(1) = 0");
        Edge.run("24", "BAD_VALUE if there is no such slot",
            "save(-1) = BAD_VALUE; save(2) = BAD_VALUE; save(LEAST_INT) = BAD_VALUE; save(GREATEST_INT) = BAD_VALUE; restore(0) = NOT_POSSIBLE; restore(1) = NOT_POSSIBLE; advance(3) = 3; save(2) = BAD_VALUE; save(1) = 3; advance(1) = 4; save(2) = BAD_VALUE; restore(1) = 3");
        Edge.run("24", "Returns the time", "save(0) = 0; advance(7) = 7; save(0) = 7; save(1) = 7; advance(2000) = 2007; save(1) = 2007; restore(0) = 7; save(1) = 7");
        Edge.run("25", "`slot`: 0 or 1", "save(0) = 0; advance(1) = 1; save(1) = 1; restore(-1) = BAD_VALUE; restore(0) = 0; restore(1) = 1; restore(2) = BAD_VALUE; link(0) = 1");
        Edge.run("25", "Returns the time", "advance(9) = 9; save(0) = 9; advance(1) = 10; restore(0) = 9; link(0) = 9; restore(0) = 9");
    }

    private static void nothingSaved() {
        Edge.run("25", "BAD_VALUE if there is no such slot; NOT_POSSIBLE if nothing was saved in it",
            "restore(-1) = BAD_VALUE; restore(2) = BAD_VALUE; restore(LEAST_INT) = BAD_VALUE; restore(GREATEST_INT) = BAD_VALUE; restore(0) = NOT_POSSIBLE; restore(1) = NOT_POSSIBLE; advance(5) = 5; restore(0) = NOT_POSSIBLE; link(0) = 5",
            "save(1) = 5; restore(0) = NOT_POSSIBLE; restore(1) = 5; restore(0) = NOT_POSSIBLE; save(0) = 5; restore(0) = 5; restore(2) = BAD_VALUE; restore(-1) = BAD_VALUE");
        // The slots are not saved: what was saved in one of them later stays there.
        Edge.run("24", "Saves everything except the slots", "save(0) = 0; advance(4) = 4; save(1) = 4; restore(0) = 0; restore(1) = 4; link(0) = 4; restore(0) = 0; restore(1) = 4");
    }

    private static void overwritten() {
        Edge.run("24", SAVES,
            "addFlow(3) = 0; offer(0, 5, 0) = 0; put(\"a1\") = 2; save(0) = 0; save(1) = 0; advance(9) = 9; set(0, WEIGHT, 4) = 3; wipe() = 2; addFlow(5) = 1; save(0) = 9; restore(1) = 0; flow(0, 0) = 3; link(11) = 2; link(5) = 1; packet(0, 4) = WAITING",
            "restore(0) = 9; flow(0, 0) = 4; link(11) = 0; link(5) = 2; packet(0, 4) = DELIVERED; save(1) = 9; restore(1) = 9; link(5) = 2; link(11) = 0");
        // A slot with more flows, packets and pieces in it than what is saved over it.
        Edge.run("24", SAVES,
            "save(0) = 0; addFlow(1) = 0; addFlow(2) = 1; rule(HEADER, 0) = 2; offer(0, 2, 0) = 0; offer(1, 2, 0) = 1; put(\"abc\") = 3; advance(3) = 3; save(1) = 3; restore(0) = 0; save(1) = 0; restore(1) = 0; link(5) = 0; link(6) = 0; link(7) = NONE; link(11) = 0",
            "link(15) = 0; flow(0, 0) = NO_SUCH; packet(0, 0) = NO_SUCH; piece(0, 0) = NONE; link(16) = NONE; link(14) = NONE; link(1) = 2; advance(9) = 9; link(12) = 0; addFlow(7) = 0; flow(0, 0) = 7; flow(0, 5) = 0; amount(0, 0) = 0; offer(0, 3, 0) = 0");
    }

    private static void kept() {
        Edge.run("25", RESTORES,
            "addFlow(1) = 0; offer(0, 5, 0) = 0; advance(2) = 2; save(0) = 2; advance(9) = 11; packet(0, 4) = DELIVERED; restore(0) = 2; packet(0, 4) = SENDING; link(9) = 6; advance(6) = 8; packet(0, 8) = 8; restore(0) = 2; link(9) = 6; packet(0, 8) = NONE",
            "flow(0, 9) = 0; cancel(0) = NOT_POSSIBLE; offer(0, 1, 0) = 1; cancel(1) = 1; set(0, WEIGHT, 9) = 1; rule(MARGIN, 5) = 10; restore(0) = 2; packet(1, 0) = NO_SUCH; flow(0, 0) = 1; link(3) = 10; amount(0, 0) = 5*UNIT; amount(0, 4) = 3*UNIT; link(6) = 1");
        Edge.run("25", RESTORES,
            "advance(1) = 1; save(0) = 1; advance(1) = 2; save(0) = 2; advance(1) = 3; restore(0) = 2; restore(0) = 2; link(0) = 2; advance(5) = 7; save(1) = 7; restore(0) = 2; restore(1) = 7; save(0) = 7; restore(0) = 7");
    }

    private static void emptyAndFull() {
        // Slot 0 has nothing in it but a save of a new link, slot 1 a link with all places taken.
        Script full = Edge.of("25", RESTORES).calls("save(0) = 0; rule(HEADER, 0) = 2");
        for (int flow = 0; flow < 6; flow++) {
            full.calls("addFlow(" + (flow + 1) + ") = " + flow);
        }
        for (int number = 0; number < 120; number++) {
            full.calls("offer(" + number % 6 + ", " + (number + 1) + ", 0) = " + number);
        }
        full.calls("offer(0, 1, 0) = TOO_MANY; addFlow(1) = TOO_MANY; advance(1) = 1; link(7) = 0; save(1) = 1; advance(2000) = 2001; set(5, WEIGHT, 16) = 6; wipe() = 0; restore(0) = 0; link(5) = 0; link(6) = 0; flow(0, 0) = NO_SUCH; packet(0, 0) = NO_SUCH")
            .calls("link(14) = NONE; addFlow(9) = 0; offer(0, 7, 0) = 0; restore(1) = 1; link(5) = 6; link(6) = 120; addFlow(1) = TOO_MANY; offer(0, 1, 0) = TOO_MANY; link(7) = 0; link(9) = 1");
        for (int flow = 0; flow < 6; flow++) {
            full.calls("flow(" + flow + ", 0) = " + (flow + 1) + "; flow(" + flow + ", 5) = 20; flow(" + flow + ", 6) = " + flow + "; flow(" + flow + ", 7) = " + (1160 + 20 * flow));
        }
        for (int number = 0; number < 120; number++) {
            full.calls("packet(" + number + ", 1) = " + (number + 1) + "; packet(" + number + ", 4) = " + (number == 0 ? "SENDING" : "WAITING"));
        }
    }

    /** Numbers that only grow are the smaller ones again after a restore. */
    private static void greatestNumbers() {
        Edge.run("25", RESTORES,
            "addFlow(1) = 0; addFlow(1) = 1; rule(HEADER, 0) = 2; set(0, PATIENCE, 1) = 0; offer(0, 2, 1) = 0; advance(3) = 3; save(0) = 3; flow(0, 12) = 3; flow(0, 13) = 3; flow(0, 10) = 1; amount(0, 3) = 2*UNIT; amount(0, 7) = 2*UNIT; link(12) = 2",
            "offer(1, 9, 1) = 1; offer(0, 9, 1) = 2; advance(40) = 43; flow(0, 12) = 10; flow(0, 13) = 13; flow(0, 10) = 2; amount(0, 3) = 11*UNIT; amount(0, 7) = 9*360360; link(12) = 20; flow(1, 9) = 1; restore(0) = 3; flow(0, 12) = 3; flow(0, 13) = 3",
            "flow(0, 10) = 1; amount(0, 3) = 2*UNIT; amount(0, 7) = 2*UNIT; link(12) = 2; flow(1, 9) = 0; flow(1, 10) = 0; flow(1, 12) = 0; flow(1, 13) = 0; flow(1, 14) = 0; amount(1, 5) = 0; amount(1, 7) = 0; flow(0, 8) = 2; flow(0, 9) = 1; flow(0, 14) = 1; link(15) = 1");
        Edge.run("25", RESTORES,
            "addFlow(1) = 0; rule(HEADER, 9) = 2; offer(0, 5, 0) = 0; offer(0, 5, 0) = 1; advance(3) = 3; link(9) = 12; save(1) = 3; rule(HEADER, 4) = 9; advance(15) = 18; link(7) = 1; link(9) = 6; link(13) = 9; restore(1) = 3; link(9) = 12; link(13) = 0",
            "rule(HEADER, 1) = 9; advance(12) = 15; link(13) = 9; link(9) = 6; advance(6) = 21; link(13) = 10");
    }

    private static void goneRound() {
        // The numbers 0 to 119 are saved; 120 to 149 then take the places of 0 to 29.
        Script packets = Edge.of("25", RESTORES).calls("addFlow(1) = 0; addFlow(1) = 1");
        EdgesOfPacketsTest.fill(packets, 0, 119);
        packets.calls("save(0) = 0; link(16) = 0");
        EdgesOfPacketsTest.fill(packets, 120, 149);
        packets.calls("save(1) = 0; link(16) = 30; packet(29, 0) = NO_SUCH; restore(0) = 0; link(6) = 120; link(16) = 0; packet(0, 4) = CANCELED; start(0) = 0; start(29) = 29*UNIT; start(30) = 30*UNIT; start(119) = 119*UNIT; packet(120, 0) = NO_SUCH; amount(1, 0) = 120*UNIT")
            .calls("restore(1) = 0; link(6) = 150; link(16) = 30; packet(29, 0) = NO_SUCH; start(30) = 30*UNIT; start(120) = 120*UNIT; start(149) = 149*UNIT; packet(150, 0) = NO_SUCH; amount(1, 0) = 150*UNIT; offer(0, 1, 0) = 150; link(16) = 31");
        // The pieces 0 to 59 are saved; later ones take their places.
        Edge.run("25", RESTORES,
            "addFlow(1) = 0; rule(HEADER, 0) = 2; set(0, SPLIT, 1) = 0; offer(0, 200, 0) = 0; advance(61) = 61; link(15) = 60; save(0) = 61; advance(30) = 91; link(15) = 90; piece(29, 3) = NONE; piece(30, 3) = 32; save(1) = 91; advance(60) = 151; piece(90, 3) = 92",
            "piece(89, 3) = NONE; restore(0) = 61; link(15) = 60; piece(0, 3) = 2; piece(29, 3) = 31; piece(59, 3) = 61; piece(60, 3) = NONE; restore(1) = 91; piece(29, 3) = NONE; piece(30, 3) = 32; piece(60, 3) = 62; piece(89, 3) = 91; piece(90, 3) = NONE",
            "advance(1) = 92; piece(30, 3) = NONE; piece(90, 3) = 92");
    }

    private static void pad() {
        Script full = Edge.of("24", SAVES).calls("addFlow(1) = 0; put(\"a1,a2,a3\") = 8; put(\",a4,a5,a\") = 16; put(\"6,a7,a8,\") = 24; put(\"a9,b1,b2\") = 32; save(0) = 0; wipe() = 32; put(\"a5*3\") = 4; save(1) = 0; wipe() = 4");
        full.calls("restore(0) = 0; link(11) = 32; fault() = NONE; load() = NO_SUCH; addFlow(1) = 1; load() = 11; packet(0, 1) = 1; packet(8, 1) = 9; packet(10, 1) = 2; packet(10, 0) = 1; link(11) = 0; restore(1) = 0; link(11) = 4; link(5) = 1; load() = 3; packet(2, 1) = 5")
            .calls("link(11) = 0; restore(0) = 0; link(11) = 32; put(\"x\") = 33; fault() = 32; restore(0) = 0; fault() = NONE");
    }

    private static void lastTime() {
        Script late = Edge.of("25", "Returns the time").calls("save(0) = 0");
        for (int i = 1; i <= 500; i++) {
            late.calls("advance(2000) = " + 2000 * i);
        }
        late.calls("save(1) = 1000000; advance(1) = NOT_POSSIBLE; restore(0) = 0; advance(2000) = 2000; restore(1) = 1000000; advance(1) = NOT_POSSIBLE; awaitDelivery(1) = NOT_POSSIBLE; link(0) = 1000000; restore(0) = 0; link(0) = 0");
    }
}
