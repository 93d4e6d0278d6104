import java.util.ArrayList;
import java.util.List;

/** Promises 24 and 25: save, restore. */
public final class SavingTest {
    public static void main(String[] args) {
        errors();
        everything();
        allAnswers();
        slots();
        whatComesAfter();
        Script.end();
    }

    private static void errors() {
        Script.run("24, 25: wrong slots, and slots without anything",
            "save(-1) = BAD_VALUE; save(2) = BAD_VALUE; save(LEAST_INT) = BAD_VALUE; save(GREATEST_INT) = BAD_VALUE; restore(-1) = BAD_VALUE; restore(2) = BAD_VALUE",
            "restore(LEAST_INT) = BAD_VALUE; restore(GREATEST_INT) = BAD_VALUE; restore(0) = NOT_POSSIBLE; restore(1) = NOT_POSSIBLE; save(1) = 0; restore(0) = NOT_POSSIBLE",
            "advance(5) = 5; restore(1) = 0; link(0) = 0; restore(2) = BAD_VALUE; save(0) = 0; restore(0) = 0");
    }

    private static void everything() {
        Script.run("24, 25: everything comes back",
            "addFlow(2) = 0; addFlow(1) = 1; set(0, SPLIT, 3) = 0; set(1, PATIENCE, 2) = 0; rule(HEADER, 1) = 2; rule(JOINING, 20) = 1; rule(MARGIN, 0) = 10; offer(0, 5, 7) = 0",
            "offer(1, 4, 0) = 1; offer(1, 6, 90) = 2; offer(0, 2, 0) = 3; put(\"b1*2\") = 4; advance(10) = 10; packet(0, 4) = SENT; link(7) = 1; link(9) = 3; save(0) = 10",
            "link(12) = 9; link(13) = 2; link(15) = 2; link(10) = 0; amount(0, 5) = 4804800; amount(0, 4) = 240240; amount(1, 4) = 4804800",
            "advance(40) = 50; rule(HEADER, 9) = 1; rule(JOINING, 0) = 20; rule(MARGIN, 7) = 0; rule(PROMOTION, 0) = 1; set(0, WEIGHT, 9) = 2; set(1, ROOM, 3) = 20; addFlow(5) = 2",
            "load() = 2; offer(2, 8, 0) = 6; advance(30) = 80; wipe() = 0; put(\"xyzxyz\") = 6; restore(0) = 10",
            "link(0) = 10; link(1) = 1; link(2) = 20; link(3) = 0; link(4) = 1; link(5) = 2; link(6) = 4; link(7) = 1; link(8) = 4; link(9) = 3; link(10) = 0; link(11) = 4",
            "link(12) = 9; link(13) = 2; link(14) = 1; link(15) = 2; link(16) = 0; flow(0, 0) = 2; flow(0, 2) = 3; flow(0, 5) = 1; flow(0, 8) = 5; flow(0, 9) = 0; flow(1, 1) = 20",
            "flow(1, 3) = 2; flow(1, 5) = 2; flow(1, 14) = 2; flow(2, 0) = NO_SUCH; packet(0, 4) = SENT; packet(0, 6) = 2; packet(0, 7) = 2; packet(0, 8) = NONE; packet(4, 0) = NO_SUCH",
            "packet(1, 4) = SENDING; packet(2, 4) = WAITING; piece(0, 2) = 3; piece(1, 2) = 2; piece(1, 3) = 8; piece(1, 4) = 1; piece(2, 0) = NONE; virtualTime() = 0",
            "amount(0, 5) = 4804800; amount(0, 4) = 240240; amount(1, 4) = 4804800; fault() = NONE; load() = 2; packet(4, 0) = 1; packet(4, 2) = 10");
    }

    /** What is answered before a save is answered after the restore, though other things took all places in between. */
    private static void allAnswers() {
        Script script = new Script("24, 25: all answers come back").calls("addFlow(2) = 0; addFlow(1) = 1; save(0) = 0")
            .calls("rule(JOINING, 30) = 1; rule(MARGIN, 3) = 10; set(0, SPLIT, 4) = 0; set(1, PATIENCE, 6) = 0; set(1, MERCY, HALF) = 2; offer(0, 9, 12) = 0")
            .calls("offer(1, 6, 0) = 1; offer(1, 3, 5) = 2; offer(0, 4, 0) = 3; advance(45) = 45; offer(0, 6, 30) = 4; advance(14) = 59; packet(4, 4) = SENT")
            .calls("offer(0, 8, 0) = 5; offer(1, 7, 90) = 6; put(\"a1,b2\") = 5; advance(9) = 68; save(1) = 68");
        List<String> calls = new ArrayList<>(List.of("virtualTime()", "fault()", "start(3)", "start(4)", "start(5)", "start(6)"));
        addCalls(calls, "link", 1, 16);
        addCalls(calls, "flow", 2, 14);
        addCalls(calls, "amount", 2, 7);
        addCalls(calls, "packet", 7, 9);
        addCalls(calls, "piece", 7, 4);
        List<Long> answers = new ArrayList<>();
        for (String call : calls) {
            answers.add(script.ask(call));
        }
        script.calls("restore(0) = 0; rule(HEADER, 1) = 2; set(0, WEIGHT, 5) = 2; set(1, SPLIT, 2) = 0; advance(7) = 7; offer(1, 2, 0) = 0; offer(1, 3, 0) = 1")
            .calls("offer(1, 4, 0) = 2; offer(0, 3, 0) = 3; offer(0, 2, 0) = 4; offer(0, 1, 9) = 5; offer(0, 1, 0) = 6; advance(100) = 107; restore(1) = 68");
        for (int i = 0; i < calls.size(); i++) {
            script.due(calls.get(i), script.ask(calls.get(i)), answers.get(i));
        }
        script.calls("forecast(4, 100) = 18; awaitDelivery(100) = 6; load() = 2");
    }

    private static void addCalls(List<String> calls, String name, int firsts, int greatestWhat) {
        for (int first = 0; first < firsts; first++) {
            for (int what = 0; what <= greatestWhat; what++) {
                calls.add(name.equals("link") ? "link(" + what + ")" : name + "(" + first + ", " + what + ")");
            }
        }
    }

    private static void slots() {
        Script.run("24, 25: two slots, each keeps what was saved last, and neither is saved or restored itself",
            "addFlow(1) = 0; save(0) = 0; advance(7) = 7; save(1) = 7; advance(3) = 10; restore(0) = 0; link(0) = 0; restore(0) = 0; restore(1) = 7; link(0) = 7; advance(1) = 8",
            "restore(1) = 7; save(0) = 7; advance(5) = 12; restore(0) = 7; advance(5) = 12; save(0) = 12; restore(1) = 7; restore(0) = 12; link(0) = 12; restore(1) = 7");
        Script.run("24: changes after a save do not reach the slot, nor do those after a restore",
            "addFlow(1) = 0; offer(0, 5, 0) = 0; put(\"a1\") = 2; save(0) = 0; advance(9) = 9; packet(0, 4) = DELIVERED; put(\"x\") = 3; restore(0) = 0; packet(0, 4) = WAITING; link(11) = 2",
            "cancel(0) = 0; set(0, WEIGHT, 7) = 1; wipe() = 2; put(\"zzzz\") = 4; restore(0) = 0; packet(0, 4) = WAITING; flow(0, 5) = 1; flow(0, 6) = 0; flow(0, 0) = 1; load() = 1; packet(1, 1) = 1");
    }

    private static void whatComesAfter() {
        Script.run("25: a flow that is added in the place of one that was undone is new",
            "addFlow(1) = 0; save(0) = 0; addFlow(2) = 1; set(1, SPLIT, 3) = 0; set(1, MERCY, HALF) = 2; set(1, PATIENCE, 5) = 0; offer(1, 7, 9) = 0; advance(30) = 30; offer(1, 7, 0) = 1",
            "amount(1, 3) = 2207205; flow(1, 11) = 2; restore(0) = 0; addFlow(3) = 1; flow(1, 0) = 3; flow(1, 2) = 0; flow(1, 3) = 0; flow(1, 4) = 2; flow(1, 5) = 0; flow(1, 6) = NONE; flow(1, 8) = 0; flow(1, 9) = 0; flow(1, 10) = 0; flow(1, 11) = 0",
            "flow(1, 12) = 0; flow(1, 13) = 0; flow(1, 14) = 0; amount(1, 0) = 0; amount(1, 3) = 0; amount(1, 4) = 0; amount(1, 5) = 0; amount(1, 6) = 0; amount(1, 7) = 0",
            "offer(1, 6, 0) = 0; packet(0, 1) = 6; packet(0, 3) = NONE; packet(0, 5) = 0; packet(0, 7) = 0; start(0) = 0; amount(1, 0) = 2*UNIT; awaitDelivery(50) = 0; link(0) = 9; link(15) = 1");
        Script.run("25: a SENT packet that was undone is not delivered",
            "addFlow(1) = 0; rule(HEADER, 0) = 2; rule(JOINING, 50) = 1; set(0, SPLIT, 1) = 0; save(1) = 0; advance(100) = 100; offer(0, 2, 0) = 0; advance(3) = 103",
            "packet(0, 4) = SENT; save(0) = 103; restore(1) = 0; offer(0, 2, 0) = 0; offer(0, 2, 0) = 1; advance(5) = 5; packet(1, 4) = SENT; restore(0) = 103",
            "awaitDelivery(10) = NONE; flow(0, 9) = 0; awaitDelivery(50) = 0; link(0) = 153; flow(0, 9) = 1");
        Script script = new Script("25: packets and pieces that were forgotten are known again")
            .calls("addFlow(1) = 0; rule(HEADER, 0) = 2; set(0, SPLIT, 1) = 0; offer(0, 3, 0) = 0; advance(5) = 5; save(1) = 5; offer(0, 100, 0) = 1; advance(110) = 115");
        for (int number = 2; number < 130; number++) {
            script.calls("offer(0, 1, 0) = " + number + "; cancel(" + number + ") = 0");
        }
        script.calls("packet(0, 0) = NO_SUCH; piece(0, 0) = NONE; restore(1) = 5; packet(0, 8) = 5; piece(0, 3) = 2; piece(2, 3) = 4; piece(3, 3) = NONE; link(6) = 1; packet(1, 0) = NO_SUCH");
    }
}
