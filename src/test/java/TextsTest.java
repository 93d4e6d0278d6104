/** Promises 9 to 12: put, wipe, fault, load. */
public final class TextsTest {
    public static void main(String[] args) {
        put();
        wipe();
        fault();
        load();
        loadInto();
        Script.end();
    }

    private static void put() {
        Script.run("9: one to eight characters, the last one in the lowest bits",
            "addFlow(1) = 0; put(97) = 1; put(\"12\") = 3; fault() = NONE; load() = 1; packet(0, 1) = 12",
            "put(\"a1234@56\") = 8; link(11) = 8; fault() = NONE; load() = 1; packet(1, 1) = 1234; packet(1, 3) = 56");
        Script.run("9: the codes 33 and 126 are the edges",
            "put(33) = 1; put(126) = 2; put(32) = BAD_VALUE; put(127) = BAD_VALUE; put(1) = BAD_VALUE; put(128) = BAD_VALUE; put(255) = BAD_VALUE",
            "put(8545) = 4; put(8225) = BAD_VALUE; put(8480) = BAD_VALUE; put(32609) = BAD_VALUE; link(11) = 4");
        Script.run("9: no character, and something above 8 bits that are 0",
            "put(0) = BAD_VALUE; put(256) = BAD_VALUE; put(24832) = BAD_VALUE; put(6356992) = BAD_VALUE; put(6357089) = BAD_VALUE",
            "put(" + (97L << 56 | 97L) + ") = BAD_VALUE; put(" + (1L << 32 | 97L) + ") = BAD_VALUE; put(" + (97L << 56) + ") = BAD_VALUE",
            "put(-1) = BAD_VALUE; put(" + Long.MIN_VALUE + ") = BAD_VALUE; put(" + (Long.MIN_VALUE | 97L) + ") = BAD_VALUE",
            "put(" + Long.MAX_VALUE + ") = BAD_VALUE; put(" + (0xA1L << 56 | Script.characters("1234567")) + ") = BAD_VALUE; link(11) = 0");
        new Script("9: the pad has 80 characters").calls("put(\"a1,a1,a1\") = 8; put(\",a1,a1,a\") = 16; put(\"1,a1,a1,\") = 24")
            .calls("put(\"a1,a1,a1\") = 32; put(\",a1,a1,a\") = 40; put(\"1,a1,a1,\") = 48; put(\"a1,a1,a1\") = 56; put(\",a1,a1,a\") = 64")
            .calls("put(\"1,a1,a1,\") = 72; put(\"a1,a1,a\") = 79; put(\"12\") = TOO_MANY; put(0) = BAD_VALUE; put(32) = BAD_VALUE")
            .calls("link(11) = 79; fault() = 79; put(\"1\") = 80; put(\"1\") = TOO_MANY; put(256) = BAD_VALUE; link(11) = 80; fault() = NONE")
            .calls("addFlow(1) = 0; set(0, ROOM, 20) = 20; load() = 20; put(\"12345678\") = 8");
    }

    private static void wipe() {
        Script.run("10: the length that it had",
            "wipe() = 0; put(\"a1\") = 2; wipe() = 2; wipe() = 0; link(11) = 0; put(\"b\") = 1; fault() = 1; put(\"77\") = 3; fault() = NONE; wipe() = 3; fault() = 0");
    }

    private static void dueFault(String text, String due) {
        Script script = new Script("11: \"" + text + "\"");
        for (int at = 0; at < text.length(); at += 8) {
            String part = text.substring(at, Math.min(text.length(), at + 8));
            script.calls("put(\"" + part + "\") = " + (at + part.length()));
        }
        script.calls("fault() = " + due + "; link(11) = " + text.length() + "; fault() = " + due);
        if (!due.equals("NONE")) {
            script.calls("load() = BAD_TEXT; link(11) = " + text.length());
        }
    }

    private static void fault() {
        String[] right = {"a1", "f2000", "a1999", "c1000", "b999", "d20", "e1@1", "e1@9999", "e1@1000", "a1*1", "a1*9", "a1@1*1", "f2000@9999*9",
            "a1,b2", "a1*2,b3@4,c5@6*7,d8"};
        for (String text : right) {
            dueFault(text, "NONE");
        }
        String[] early = {"", "a", "a1@", "a1*", "a1@1*", "a1,", "a1,b", "a1*9,", "a1@5,"};
        for (String text : early) {
            dueFault(text, "" + text.length());
        }
        // The fault is where the bar stands.
        String[] wrong = {"|g1", "|A1", "|1", "|,a1", "|@1", "|`1", "a|0", "a|01", "a|a", "a|@1", "a|*2", "a|,", "a|/", "a|:", "a200|1", "a200|9",
            "a201|0", "a300|0", "a999|9", "a2000|0", "a1000|0", "a1999|9", "a1|a", "a1|-", "a1|/", "a1|:", "a1@|0", "a1@|01", "a1@|@", "a1@|*2", "a1@|,",
            "a1@9999|9", "a1@1000|0", "a1@1|@2", "a1@1|b", "a1*|0", "a1*|01", "a1*|a", "a1*|*", "a1*|@1", "a1*|,", "a1*1|0", "a1*9|9", "a1*2|*2",
            "a1*2|@5", "a1*2|b1", "a1,|,b1", "a1,|g1", "a1,|1", "a1,b|0", "a1,b200|1", "a1|;b1", "a1|.5"};
        for (String text : wrong) {
            dueFault(text.replace("|", ""), "" + text.indexOf('|'));
        }
        Script.run("11: whether there are such flows does not matter", "put(\"f1\") = 2; fault() = NONE; load() = NO_SUCH");
    }

    private static void load() {
        Script.run("12: letters, lengths, deadlines and counts",
            "addFlow(1) = 0; addFlow(1) = 1; addFlow(1) = 2; addFlow(1) = 3; addFlow(1) = 4; addFlow(1) = 5; advance(100) = 100",
            "put(\"f20@7*2,\") = 8; put(\"a1*3,e20\") = 16; put(\"00,b5@99\") = 24; put(\"99\") = 26; load() = 7; link(11) = 0; link(6) = 7",
            "packet(0, 0) = 5; packet(0, 1) = 20; packet(0, 3) = 107; packet(0, 2) = 100; packet(1, 0) = 5; packet(1, 1) = 20; packet(1, 3) = 107",
            "packet(2, 0) = 0; packet(2, 3) = NONE; packet(3, 1) = 1; packet(4, 0) = 0; packet(4, 1) = 1; packet(5, 0) = 4; packet(5, 1) = 2000",
            "packet(5, 3) = NONE; packet(6, 0) = 1; packet(6, 1) = 5; packet(6, 3) = 10099; start(3) = UNIT; start(4) = 2*UNIT; amount(5, 0) = 40*UNIT",
            "load() = BAD_TEXT; fault() = 0");
        Script.run("12: c and d", "addFlow(1) = 0; addFlow(1) = 1; addFlow(1) = 2; addFlow(1) = 3; put(\"d3,c4\") = 5; load() = 2; packet(0, 0) = 3; packet(1, 0) = 2");
        Script.run("12: errors change nothing, and a fault is told before a missing flow",
            "addFlow(1) = 0; load() = BAD_TEXT; put(\"a5,b6,\") = 6; load() = BAD_TEXT; link(6) = 0; link(11) = 6; put(\"a1\") = 8; load() = NO_SUCH",
            "link(6) = 0; link(11) = 8; flow(0, 5) = 0; amount(0, 0) = 0; fault() = NONE; put(\"x\") = 9; load() = BAD_TEXT; link(11) = 9; wipe() = 9",
            "put(\"a5,f6\") = 5; load() = NO_SUCH; addFlow(1) = 1; load() = NO_SUCH; link(11) = 5");
    }

    private static void loadInto() {
        Script.run("12: what offer() would refuse is left out, the rest is not",
            "addFlow(1) = 0; addFlow(1) = 1; set(0, ROOM, 2) = 20; put(\"a5*3,b6*\") = 8; put(\"2,a1,b7\") = 15; load() = 5; flow(0, 5) = 2; flow(1, 5) = 3",
            "packet(2, 0) = 1; packet(4, 1) = 7; link(6) = 5; link(11) = 0; put(\"a1*9\") = 4; load() = 0; link(11) = 0; link(6) = 5");
        Script script = new Script("12: a packet that would be forgotten and still waits").calls("addFlow(1) = 0; addFlow(1) = 1; offer(0, 1, 0) = 0");
        for (int number = 1; number < 118; number++) {
            script.calls("offer(1, 1, 0) = " + number + "; cancel(" + number + ") = 0");
        }
        script.calls("put(\"b1*5\") = 4; load() = 2; link(6) = 120; link(16) = 0; flow(1, 5) = 2; cancel(0) = 0; put(\"b1*5\") = 4; load() = 5; link(16) = 5");
    }
}
