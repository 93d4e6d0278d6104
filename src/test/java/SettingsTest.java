/** Promises 1 to 4: a new object, addFlow, set, rule. */
public final class SettingsTest {
    public static void main(String[] args) {
        newObject();
        addFlow();
        set();
        weightThatChanges();
        rule();
        Script.end();
    }

    private static void newObject() {
        Script.run("1: there is nothing",
            "link(0) = 0; link(5) = 0; link(6) = 0; link(7) = NONE; link(8) = 0; link(9) = 0; link(10) = 0; link(11) = 0",
            "link(12) = 0; link(13) = 0; link(14) = NONE; link(15) = 0; link(16) = NONE; virtualTime() = 0; fault() = 0",
            "flow(0, 0) = NO_SUCH; amount(0, 0) = GONE+NO_SUCH; packet(0, 0) = NO_SUCH; start(0) = GONE+NO_SUCH",
            "piece(0, 0) = NONE; apart(0, 0) = GONE+NO_SUCH; restore(0) = NOT_POSSIBLE; restore(1) = NOT_POSSIBLE");
        Script.run("1: the first settings of the link", "link(1) = 2; link(2) = 1; link(3) = 10; link(4) = 1");
        Script.run("1: time goes on without flows", "advance(5) = 5; awaitDelivery(3) = NONE; link(0) = 8; link(12) = 0");
        Script one = new Script("1: objects share nothing, one");
        Script other = new Script("1: objects share nothing, other");
        one.calls("addFlow(3) = 0; rule(HEADER, 7) = 2; offer(0, 5, 0) = 0; put(\"a1\") = 2; advance(4) = 4; save(0) = 4");
        other.calls("link(0) = 0; link(1) = 2; link(5) = 0; link(6) = 0; link(11) = 0; restore(0) = NOT_POSSIBLE");
    }

    private static void addFlow() {
        Script.run("2: weights",
            "addFlow(0) = BAD_VALUE; addFlow(17) = BAD_VALUE; addFlow(-1) = BAD_VALUE; addFlow(LEAST_INT) = BAD_VALUE",
            "addFlow(GREATEST_INT) = BAD_VALUE; link(5) = 0; addFlow(1) = 0; addFlow(16) = 1; link(5) = 2",
            "flow(0, 0) = 1; flow(1, 0) = 16; flow(2, 0) = NO_SUCH");
        Script.run("2: the first settings of a flow",
            "addFlow(9) = 0; flow(0, 0) = 9; flow(0, 1) = 20; flow(0, 2) = 0; flow(0, 3) = 0; flow(0, 4) = 2",
            "flow(0, 5) = 0; flow(0, 6) = NONE; flow(0, 11) = 0; amount(0, 0) = 0; amount(0, 7) = 0");
        Script.run("2: up to 6 flows, and a bad weight is told first",
            "addFlow(1) = 0; addFlow(2) = 1; addFlow(3) = 2; addFlow(4) = 3; addFlow(5) = 4; addFlow(6) = 5",
            "addFlow(7) = TOO_MANY; addFlow(16) = TOO_MANY; addFlow(0) = BAD_VALUE; addFlow(17) = BAD_VALUE; link(5) = 6; flow(5, 0) = 6");
        Script.run("2: a flow that is added while V is not 0",
            "addFlow(1) = 0; offer(0, 3, 0) = 0; offer(0, 3, 0) = 1; advance(7) = 7; virtualTime() = 3*UNIT",
            "addFlow(1) = 1; amount(1, 0) = 0; amount(1, 2) = 0; offer(1, 1, 0) = 2; start(2) = 3*UNIT");
    }

    private static void set() {
        Script.run("3: the previous value is returned",
            "addFlow(3) = 0; addFlow(5) = 1; set(0, WEIGHT, 4) = 3; set(0, WEIGHT, 16) = 4; set(0, ROOM, 1) = 20; set(0, SPLIT, 1000) = 0",
            "set(0, PATIENCE, 1000) = 0; set(0, MERCY, NOTHING) = ALL; set(0, MERCY, HALF) = NOTHING",
            "flow(0, 0) = 16; flow(0, 1) = 1; flow(0, 2) = 1000; flow(0, 3) = 1000; flow(0, 4) = 1",
            "flow(1, 0) = 5; flow(1, 1) = 20; flow(1, 2) = 0; flow(1, 3) = 0; flow(1, 4) = 2");
        Script.run("3: the ranges",
            "addFlow(3) = 0; set(0, WEIGHT, 0) = BAD_VALUE; set(0, WEIGHT, 17) = BAD_VALUE; set(0, WEIGHT, 1) = 3; set(0, WEIGHT, 16) = 1",
            "set(0, ROOM, 0) = BAD_VALUE; set(0, ROOM, 21) = BAD_VALUE; set(0, ROOM, 1) = 20; set(0, ROOM, 20) = 1",
            "set(0, SPLIT, -1) = BAD_VALUE; set(0, SPLIT, 1001) = BAD_VALUE; set(0, SPLIT, 1000) = 0; set(0, SPLIT, 0) = 1000",
            "set(0, PATIENCE, -1) = BAD_VALUE; set(0, PATIENCE, 1001) = BAD_VALUE; set(0, PATIENCE, 1000) = 0; set(0, PATIENCE, 0) = 1000",
            "set(0, MERCY, -1) = BAD_VALUE; set(0, MERCY, 3) = BAD_VALUE; set(0, MERCY, 0) = 2; set(0, MERCY, 2) = 0",
            "set(0, WEIGHT, LEAST_INT) = BAD_VALUE; set(0, SPLIT, GREATEST_INT) = BAD_VALUE; flow(0, 0) = 16; flow(0, 2) = 0");
        Script.run("3: wrong settings and flows, the flow is told first",
            "set(0, WEIGHT, 1) = NO_SUCH; set(0, 9, 99) = NO_SUCH; addFlow(3) = 0; set(1, WEIGHT, 1) = NO_SUCH; set(-1, 5, 1) = NO_SUCH",
            "set(6, WEIGHT, 1) = NO_SUCH; set(LEAST_INT, 0, 0) = NO_SUCH; set(GREATEST_INT, 0, 0) = NO_SUCH; set(0, 5, 0) = BAD_VALUE",
            "set(0, -1, 1) = BAD_VALUE; set(0, LEAST_INT, 1) = BAD_VALUE; set(0, GREATEST_INT, 1) = BAD_VALUE; flow(0, 0) = 3");
    }

    private static void weightThatChanges() {
        Script.run("3: with a new weight starts and the finish stay, but later offers and tags use it",
            "addFlow(1) = 0; set(0, SPLIT, 4) = 0; offer(0, 12, 0) = 0; offer(0, 6, 0) = 1; advance(7) = 7; packet(0, 5) = 4",
            "amount(0, 1) = 4*UNIT; set(0, WEIGHT, 2) = 1; amount(0, 1) = 2*UNIT; start(1) = 12*UNIT; amount(0, 0) = 18*UNIT",
            "offer(0, 6, 0) = 2; start(2) = 18*UNIT; amount(0, 0) = 21*UNIT");
    }

    private static void rule() {
        Script.run("4: the previous value is returned",
            "rule(HEADER, 50) = 2; rule(JOINING, 50) = 1; rule(MARGIN, 1000) = 10; rule(PROMOTION, 0) = 1",
            "rule(HEADER, 0) = 50; rule(JOINING, 0) = 50; rule(MARGIN, 0) = 1000; rule(PROMOTION, 1) = 0",
            "link(1) = 0; link(2) = 0; link(3) = 0; link(4) = 1");
        Script.run("4: wrong settings and values",
            "rule(HEADER, 51) = BAD_VALUE; rule(JOINING, 51) = BAD_VALUE; rule(MARGIN, 1001) = BAD_VALUE; rule(PROMOTION, 2) = BAD_VALUE",
            "rule(HEADER, -1) = BAD_VALUE; rule(JOINING, -1) = BAD_VALUE; rule(MARGIN, -1) = BAD_VALUE; rule(PROMOTION, -1) = BAD_VALUE",
            "rule(4, 0) = BAD_VALUE; rule(-1, 0) = BAD_VALUE; rule(LEAST_INT, 0) = BAD_VALUE; rule(GREATEST_INT, 0) = BAD_VALUE",
            "rule(0, LEAST_INT) = BAD_VALUE; rule(0, GREATEST_INT) = BAD_VALUE; link(1) = 2; link(2) = 1; link(3) = 10; link(4) = 1");
        Script.run("4: a piece that is being sent keeps its header",
            "addFlow(1) = 0; offer(0, 5, 0) = 0; offer(0, 5, 0) = 1; advance(1) = 1; link(9) = 7; rule(HEADER, 0) = 2; link(9) = 7",
            "advance(7) = 8; link(13) = 2; link(9) = 5; rule(HEADER, 9) = 0; advance(5) = 13; link(13) = 2; link(15) = 2");
    }
}
