/** Promises 15 to 20: flow, amount, virtualTime, link, piece, apart. */
public final class NumbersTest {
    public static void main(String[] args) {
        flow();
        amount();
        virtualTime();
        link();
        piece();
        apart();
        Script.end();
    }

    private static void flow() {
        Script.run("15: settings and queue",
            "addFlow(4) = 0; set(0, ROOM, 9) = 20; set(0, SPLIT, 8) = 0; set(0, PATIENCE, 7) = 0; set(0, MERCY, 1) = 2; flow(0, 0) = 4; flow(0, 1) = 9",
            "flow(0, 2) = 8; flow(0, 3) = 7; flow(0, 4) = 1; flow(0, 5) = 0; flow(0, 6) = NONE; flow(0, 7) = 0; offer(0, 10, 0) = 0; offer(0, 5, 0) = 1",
            "flow(0, 5) = 2; flow(0, 6) = 0; flow(0, 7) = 15; advance(10) = 10; flow(0, 5) = 2; flow(0, 7) = 15; flow(0, 8) = 0; advance(1) = 11",
            "flow(0, 5) = 2; flow(0, 6) = 0; flow(0, 7) = 7; flow(0, 8) = 8; advance(4) = 15; flow(0, 5) = 1; flow(0, 6) = 1; flow(0, 7) = 5; flow(0, 8) = 10",
            "flow(0, 9) = 0; advance(1) = 16; flow(0, 9) = 1; flow(0, 14) = 2");
        Script.run("15: deliveries, lateness and delays",
            "addFlow(1) = 0; addFlow(1) = 1; rule(HEADER, 0) = 2; rule(PROMOTION, 0) = 1; flow(0, 12) = 0; flow(0, 13) = 0; offer(0, 4, 5) = 0; offer(0, 3, 7) = 1; advance(2) = 2",
            "offer(0, 2, 0) = 2; cancel(2) = 2; advance(3) = 5; flow(0, 9) = 1; flow(0, 10) = 0; flow(0, 12) = 5; flow(0, 13) = 5; advance(3) = 8; flow(0, 9) = 2",
            "flow(0, 10) = 1; flow(0, 12) = 8; flow(0, 13) = 13; offer(0, 1, 0) = 3; advance(2) = 10; flow(0, 9) = 3; flow(0, 10) = 1; flow(0, 12) = 8; flow(0, 13) = 15",
            "flow(0, 14) = 4; flow(0, 11) = 1; flow(1, 9) = 0; flow(1, 12) = 0; flow(1, 13) = 0; flow(1, 14) = 0; flow(1, 11) = 10");
        Script.run("15: errors, the flow is told first",
            "flow(0, 0) = NO_SUCH; flow(0, 15) = NO_SUCH; addFlow(1) = 0; flow(1, -1) = NO_SUCH; flow(-1, 0) = NO_SUCH; flow(6, 0) = NO_SUCH; flow(LEAST_INT, 0) = NO_SUCH",
            "flow(GREATEST_INT, 0) = NO_SUCH; flow(0, -1) = BAD_VALUE; flow(0, 15) = BAD_VALUE; flow(0, LEAST_INT) = BAD_VALUE; flow(0, GREATEST_INT) = BAD_VALUE; flow(0, 14) = 0");
    }

    private static void amount() {
        Script.run("16: finish, tag and debt",
            "addFlow(2) = 0; addFlow(1) = 1; rule(HEADER, 0) = 2; set(0, SPLIT, 2) = 0; offer(0, 6, 0) = 0; offer(0, 4, 0) = 1; amount(0, 0) = 5*UNIT; amount(0, 1) = 0",
            "amount(0, 2) = 0; advance(2) = 2; amount(0, 1) = 0; advance(1) = 3; amount(0, 1) = UNIT; amount(0, 2) = 0; virtualTime() = UNIT; advance(2) = 5",
            "amount(0, 1) = 2*UNIT; advance(2) = 7; amount(0, 1) = 3*UNIT; amount(0, 0) = 5*UNIT; advance(4) = 11; flow(0, 5) = 0; virtualTime() = 4*UNIT",
            "amount(0, 1) = 5*UNIT; amount(0, 2) = UNIT; amount(1, 0) = 0; amount(1, 1) = 0; amount(1, 2) = 0");
        Script.run("16: the debt of a promoted flow",
            "addFlow(1) = 0; addFlow(1) = 1; rule(HEADER, 0) = 2; rule(MARGIN, 1000) = 10; offer(0, 4, 0) = 0; offer(1, 5, 1) = 1; offer(1, 5, 1) = 2; advance(6) = 6",
            "amount(1, 1) = 5*UNIT; amount(1, 2) = 5*UNIT; amount(0, 2) = 0; advance(5) = 11; amount(1, 1) = 10*UNIT; amount(1, 2) = 10*UNIT; virtualTime() = 0");
        Script.run("16: fluid, service and lag",
            "addFlow(1) = 0; addFlow(3) = 1; offer(0, 2, 0) = 0; offer(1, 2, 0) = 1; amount(0, 4) = 2*UNIT; advance(1) = 1; amount(0, 4) = 1261260; amount(0, 5) = 180180",
            "amount(1, 4) = 900900; amount(1, 5) = 540540; amount(0, 6) = 180180; amount(1, 6) = 540540; amount(0, 7) = 180180; advance(1) = 2; amount(0, 6) = 360360",
            "advance(3) = 5; packet(0, 4) = DELIVERED; amount(0, 5) = 2*UNIT; amount(0, 6) = 0; amount(1, 6) = 2*UNIT; amount(0, 7) = 1261260; amount(1, 7) = 2*UNIT");
        Script.run("16: a lag below 0, and the greatest lag is not",
            "addFlow(1) = 0; addFlow(1) = 1; rule(HEADER, 0) = 2; offer(0, 2, 0) = 0; offer(1, 9, 0) = 1; advance(3) = 3; amount(0, 6) = -360360; amount(0, 7) = UNIT",
            "amount(1, 6) = 3*360360; offer(0, 1, 0) = 2; amount(0, 4) = 3*360360; amount(0, 6) = -360360; advance(1) = 4; amount(0, 6) = 0");
        Script.run("16: errors, the flow is told first",
            "amount(0, 0) = GONE+NO_SUCH; amount(0, 8) = GONE+NO_SUCH; addFlow(1) = 0; amount(1, 0) = GONE+NO_SUCH; amount(-1, -1) = GONE+NO_SUCH",
            "amount(LEAST_INT, 0) = GONE+NO_SUCH; amount(GREATEST_INT, 0) = GONE+NO_SUCH; amount(0, 8) = GONE+BAD_VALUE; amount(0, -1) = GONE+BAD_VALUE",
            "amount(0, LEAST_INT) = GONE+BAD_VALUE; amount(0, GREATEST_INT) = GONE+BAD_VALUE; amount(0, 3) = 0; amount(0, 7) = 0");
    }

    private static void virtualTime() {
        Script.run("17: V is the tag of the piece that began, if that is greater",
            "virtualTime() = 0; addFlow(16) = 0; offer(0, 1, 0) = 0; offer(0, 1, 0) = 1; advance(3) = 3; virtualTime() = 0; advance(1) = 4; virtualTime() = 45045",
            "offer(0, 1, 0) = 2; virtualTime() = 45045; advance(3) = 7; virtualTime() = 90090; advance(50) = 57; virtualTime() = 90090");
    }

    private static void link() {
        Script.run("18: every number",
            "rule(HEADER, 3) = 2; rule(JOINING, 4) = 1; rule(MARGIN, 5) = 10; rule(PROMOTION, 0) = 1; link(1) = 3; link(2) = 4; link(3) = 5; link(4) = 0",
            "link(5) = 0; addFlow(1) = 0; addFlow(1) = 1; link(5) = 2; link(16) = NONE; offer(1, 6, 0) = 0; offer(0, 5, 0) = 1; link(6) = 2; link(16) = 0; link(7) = NONE",
            "link(8) = 0; link(9) = 0; link(10) = 0; put(\"abc\") = 3; link(11) = 3; advance(1) = 1; link(0) = 1; link(7) = 1; link(8) = 5; link(9) = 8; link(12) = 0",
            "advance(7) = 8; link(9) = 1; link(12) = 7; link(13) = 0; link(15) = 0; advance(1) = 9; link(7) = 0; link(8) = 6; link(9) = 9; link(12) = 8; link(13) = 3",
            "link(15) = 1; link(14) = 1; advance(9) = 18; link(7) = NONE; link(8) = 0; link(9) = 0; link(12) = 17; link(13) = 6; link(14) = NONE; link(15) = 2; link(16) = 0");
        Script.run("18: the next one, the piece in work taken as if it were not",
            "addFlow(1) = 0; addFlow(1) = 1; offer(0, 9, 0) = 0; offer(1, 9, 0) = 1; offer(1, 9, 0) = 2; link(14) = 0; advance(1) = 1; link(14) = 0; advance(11) = 12; link(14) = 1",
            "cancel(2) = 1; advance(11) = 23; link(14) = NONE");
        Script.run("18: the next one is asked for at the time that is now",
            "addFlow(1) = 0; addFlow(1) = 1; offer(0, 30, 0) = 0; offer(1, 5, 19) = 1; link(14) = 0; advance(1) = 1; link(14) = 0; advance(1) = 2; link(14) = 1; link(10) = 0",
            "rule(PROMOTION, 0) = 1; link(14) = 0");
        Script script = new Script("18: the oldest packet that is known").calls("addFlow(1) = 0");
        for (int number = 0; number < 125; number++) {
            script.calls("offer(0, 1, 0) = " + number + "; cancel(" + number + ") = 0; link(16) = " + Math.max(0, number - 119));
        }
        script.calls("link(6) = 125; packet(4, 4) = NO_SUCH; packet(5, 4) = CANCELED; packet(124, 4) = CANCELED; packet(125, 4) = NO_SUCH");
        Script.run("18: errors", "link(-1) = BAD_VALUE; link(17) = BAD_VALUE; link(LEAST_INT) = BAD_VALUE; link(GREATEST_INT) = BAD_VALUE; link(16) = NONE");
    }

    private static void piece() {
        Script.run("19: every property",
            "addFlow(1) = 0; addFlow(1) = 1; set(1, SPLIT, 4) = 0; rule(MARGIN, 0) = 10; offer(1, 6, 20) = 0; offer(0, 7, 0) = 1; piece(0, 0) = NONE; advance(9) = 9; piece(0, 0) = NONE",
            "advance(1) = 10; piece(0, 0) = 1; piece(0, 1) = 0; piece(0, 2) = 7; piece(0, 3) = 10; piece(0, 4) = 0; piece(1, 0) = NONE; link(10) = 1; advance(6) = 16",
            "piece(1, 0) = 0; piece(1, 1) = 1; piece(1, 2) = 4; piece(1, 3) = 16; piece(1, 4) = 1; link(10) = 1; advance(4) = 20; piece(2, 0) = 0; piece(2, 2) = 2; piece(2, 3) = 20",
            "piece(2, 4) = 1; piece(3, 0) = NONE");
        Script.run("19: BAD_VALUE comes before NONE",
            "piece(0, 0) = NONE; piece(0, 5) = BAD_VALUE; piece(0, -1) = BAD_VALUE; piece(-1, 4) = NONE; piece(-1, 5) = BAD_VALUE; piece(LEAST_INT, 0) = NONE; piece(GREATEST_INT, 0) = NONE",
            "piece(LEAST_INT, LEAST_INT) = BAD_VALUE; piece(GREATEST_INT, GREATEST_INT) = BAD_VALUE; addFlow(1) = 0; offer(0, 1, 0) = 0; advance(4) = 4; piece(0, 4) = 0; piece(0, 5) = BAD_VALUE",
            "piece(0, -1) = BAD_VALUE");
        Script.run("19: the latest 60 are known",
            "addFlow(1) = 0; set(0, SPLIT, 1) = 0; rule(HEADER, 0) = 2; offer(0, 60, 0) = 0; offer(0, 3, 0) = 1; advance(61) = 61; link(15) = 60; piece(0, 3) = 2; piece(59, 3) = 61",
            "piece(60, 3) = NONE; advance(1) = 62; link(15) = 61; piece(0, 3) = NONE; piece(1, 3) = 3; piece(60, 3) = 62; piece(60, 0) = 1; piece(59, 0) = 0; advance(2) = 64",
            "piece(2, 3) = NONE; piece(3, 3) = 5; piece(62, 3) = 64; piece(63, 3) = NONE; piece(0, 5) = BAD_VALUE");
    }

    private static void apart() {
        Script.run("20: what was sent, divided by the weights as they are",
            "addFlow(1) = 0; addFlow(3) = 1; apart(0, 1) = 0; offer(0, 2, 0) = 0; advance(5) = 5; apart(0, 1) = 2*UNIT; apart(1, 0) = 2*UNIT; apart(0, 0) = 0; offer(1, 9, 0) = 1",
            "advance(12) = 17; flow(1, 8) = 9; apart(0, 1) = UNIT; apart(1, 0) = UNIT; set(1, WEIGHT, 9) = 3; apart(0, 1) = UNIT; apart(1, 0) = UNIT; set(1, WEIGHT, 16) = 9",
            "apart(0, 1) = 2*UNIT+-405405; set(1, WEIGHT, 1) = 16; apart(0, 1) = 7*UNIT; apart(1, 1) = 0");
        Script.run("20: errors",
            "apart(0, 0) = GONE+NO_SUCH; addFlow(1) = 0; apart(0, 0) = 0; apart(0, 1) = GONE+NO_SUCH; apart(1, 0) = GONE+NO_SUCH; apart(-1, 0) = GONE+NO_SUCH",
            "apart(0, -1) = GONE+NO_SUCH; apart(LEAST_INT, GREATEST_INT) = GONE+NO_SUCH; apart(GREATEST_INT, LEAST_INT) = GONE+NO_SUCH; apart(0, 6) = GONE+NO_SUCH");
    }
}
