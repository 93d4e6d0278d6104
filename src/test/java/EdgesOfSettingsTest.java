/** Boundary cases that the promises 1 to 4 name: a new object, addFlow, set, rule. */
public final class EdgesOfSettingsTest {
    private static final String[] SETTINGS = {"WEIGHT", "ROOM", "SPLIT", "PATIENCE", "MERCY"};
    private static final int[] LEAST = {1, 1, 0, 0, 0};
    private static final int[] GREATEST = {16, 20, 1000, 1000, 2};
    private static final int[] FIRST = {7, 20, 0, 0, 2};
    private static final String[] RULES = {"HEADER", "JOINING", "MARGIN", "PROMOTION"};
    private static final int[] GREATEST_RULE = {50, 50, 1000, 1};
    private static final int[] FIRST_RULE = {2, 1, 10, 1};

    public static void main(String[] args) {
        newObject();
        addFlow();
        set();
        rule();
        Script.end();
    }

    private static void newObject() {
        String sentence = "Creates a link without flows.";
        Edge.run("1", sentence, "link(5) = 0; flow(0, 0) = NO_SUCH; amount(0, 0) = GONE+NO_SUCH; apart(0, 0) = GONE+NO_SUCH; offer(0, 1, 0) = NO_SUCH; set(0, WEIGHT, 1) = NO_SUCH",
            "bestSplit(0, 0, 1, 1, 1) = NO_SUCH; put(\"a1\") = 2; load() = NO_SUCH; link(14) = NONE; addFlow(1) = 0; link(5) = 1");
        Edge.run("1", sentence, "link(0) = 0; link(1) = 2; link(2) = 1; link(3) = 10; link(4) = 1; link(6) = 0; link(7) = NONE; link(8) = 0; link(9) = 0; link(10) = 0; link(11) = 0",
            "link(12) = 0; link(13) = 0; link(15) = 0; link(16) = NONE; virtualTime() = 0; wipe() = 0; fault() = 0; load() = BAD_TEXT; packet(0, 0) = NO_SUCH; start(0) = GONE+NO_SUCH",
            "cancel(0) = NO_SUCH; forecast(0, 1) = NO_SUCH; leastWeight(0, 1) = NO_SUCH; piece(0, 0) = NONE; restore(0) = NOT_POSSIBLE; restore(1) = NOT_POSSIBLE");
        Edge.run("1", sentence, "awaitDelivery(2000) = NONE; link(0) = 2000; link(12) = 0; advance(2000) = 4000; save(1) = 4000; restore(1) = 4000; link(5) = 0");
    }

    private static void addFlow() {
        for (int weight = 1; weight <= 16; weight++) {
            Edge.run("2", "`weight`: 1 to 16", "addFlow(" + weight + ") = 0; flow(0, 0) = " + weight + "; link(5) = 1");
        }
        Edge.run("2", "BAD_VALUE if weight is out of range",
            "addFlow(0) = BAD_VALUE; addFlow(17) = BAD_VALUE; addFlow(-1) = BAD_VALUE; addFlow(-16) = BAD_VALUE; addFlow(LEAST_INT) = BAD_VALUE; addFlow(GREATEST_INT) = BAD_VALUE",
            "link(5) = 0; flow(0, 0) = NO_SUCH; addFlow(16) = 0; addFlow(0) = BAD_VALUE; addFlow(17) = BAD_VALUE; link(5) = 1; addFlow(1) = 1");
        Edge.run("2", "TOO_MANY if there are 6 flows",
            "addFlow(1) = 0; addFlow(1) = 1; addFlow(1) = 2; addFlow(1) = 3; addFlow(1) = 4; addFlow(1) = 5; addFlow(1) = TOO_MANY; addFlow(16) = TOO_MANY; link(5) = 6");
        Edge.run("2", "BAD_VALUE if weight is out of range; TOO_MANY if there are 6 flows",
            "addFlow(1) = 0; addFlow(1) = 1; addFlow(1) = 2; addFlow(1) = 3; addFlow(1) = 4; addFlow(1) = 5; addFlow(0) = BAD_VALUE; addFlow(17) = BAD_VALUE; addFlow(1) = TOO_MANY");
    }

    private static void set() {
        for (int setting = 0; setting < SETTINGS.length; setting++) {
            Script script = Edge.of("3", "BAD_VALUE if there is no such setting, or the value is out of range").calls("addFlow(7) = 0; addFlow(7) = 1");
            String call = "set(1, " + SETTINGS[setting] + ", ";
            script.calls(call + (LEAST[setting] - 1) + ") = BAD_VALUE; " + call + (GREATEST[setting] + 1) + ") = BAD_VALUE; flow(1, " + setting + ") = " + FIRST[setting])
                .calls(call + "LEAST_INT) = BAD_VALUE; " + call + "GREATEST_INT) = BAD_VALUE; " + call + LEAST[setting] + ") = " + FIRST[setting])
                .calls("flow(1, " + setting + ") = " + LEAST[setting] + "; " + call + GREATEST[setting] + ") = " + LEAST[setting] + "; flow(1, " + setting + ") = " + GREATEST[setting])
                .calls(call + (GREATEST[setting] + 1) + ") = BAD_VALUE; " + call + GREATEST[setting] + ") = " + GREATEST[setting] + "; flow(0, " + setting + ") = " + FIRST[setting]);
            for (int other = 0; other < SETTINGS.length; other++) {
                script.calls("flow(1, " + other + ") = " + (other == setting ? GREATEST : FIRST)[other]);
            }
        }
        Edge.run("3", "BAD_VALUE if there is no such setting",
            "addFlow(7) = 0; set(0, -1, 1) = BAD_VALUE; set(0, 5, 1) = BAD_VALUE; set(0, LEAST_INT, 1) = BAD_VALUE; set(0, GREATEST_INT, 1) = BAD_VALUE; set(0, 0, 1) = 7; set(0, 4, 1) = 2");
        Edge.run("3", "NO_SUCH if there is no such flow",
            "set(0, WEIGHT, 1) = NO_SUCH; addFlow(7) = 0; set(-1, WEIGHT, 1) = NO_SUCH; set(1, WEIGHT, 1) = NO_SUCH; set(LEAST_INT, WEIGHT, 1) = NO_SUCH",
            "set(GREATEST_INT, WEIGHT, 1) = NO_SUCH; set(0, WEIGHT, 1) = 7; addFlow(7) = 1; set(1, WEIGHT, 1) = 7; set(2, WEIGHT, 1) = NO_SUCH; addFlow(7) = 2; addFlow(7) = 3; addFlow(7) = 4",
            "addFlow(7) = 5; set(5, WEIGHT, 1) = 7; set(6, WEIGHT, 1) = NO_SUCH; set(6, 5, 1) = NO_SUCH; set(6, WEIGHT, 0) = NO_SUCH; set(-1, 5, 99) = NO_SUCH");
        Edge.run("3", "Returns the previous value", "addFlow(16) = 0; set(0, WEIGHT, 16) = 16; set(0, WEIGHT, 1) = 16; set(0, WEIGHT, 17) = BAD_VALUE; set(0, WEIGHT, 2) = 1");
    }

    private static void rule() {
        for (int setting = 0; setting < RULES.length; setting++) {
            Script script = Edge.of("4", "BAD_VALUE if there is no such setting, or the value is out of range");
            String call = "rule(" + RULES[setting] + ", ";
            String asked = "link(" + (setting + 1) + ") = ";
            script.calls(call + "-1) = BAD_VALUE; " + call + (GREATEST_RULE[setting] + 1) + ") = BAD_VALUE; " + asked + FIRST_RULE[setting])
                .calls(call + "LEAST_INT) = BAD_VALUE; " + call + "GREATEST_INT) = BAD_VALUE; " + call + "0) = " + FIRST_RULE[setting] + "; " + asked + "0")
                .calls(call + GREATEST_RULE[setting] + ") = 0; " + asked + GREATEST_RULE[setting] + "; " + call + (GREATEST_RULE[setting] + 1) + ") = BAD_VALUE")
                .calls(call + GREATEST_RULE[setting] + ") = " + GREATEST_RULE[setting]);
            for (int other = 0; other < RULES.length; other++) {
                script.calls("link(" + (other + 1) + ") = " + (other == setting ? GREATEST_RULE : FIRST_RULE)[other]);
            }
        }
        Edge.run("4", "BAD_VALUE if there is no such setting",
            "rule(-1, 1) = BAD_VALUE; rule(4, 1) = BAD_VALUE; rule(LEAST_INT, 1) = BAD_VALUE; rule(GREATEST_INT, 1) = BAD_VALUE; rule(0, 1) = 2; rule(3, 1) = 1");
        Edge.run("4", "Returns the previous value", "rule(HEADER, 2) = 2; rule(HEADER, 0) = 2; rule(HEADER, 51) = BAD_VALUE; rule(HEADER, 1) = 0");
    }
}
