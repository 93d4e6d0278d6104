/** Boundary cases that the promises 9 to 12 name, put, wipe, fault and load, and those of the pad's grammar. */
public final class EdgesOfTextsTest {
    private static final String TERMS = "Terms";

    public static void main(String[] args) {
        putCharacters();
        putZeroBits();
        putIntoPad();
        wipe();
        numbers();
        faults();
        faultOfLongTexts();
        loadArrivals();
        loadErrors();
        loadIntoFullQueues();
        loadThatWouldForget();
        Script.end();
    }

    /** Puts a text of any length up to 80, eight characters a call; the pad must be empty before. */
    private static Script put(Script script, String text) {
        for (int at = 0; at < text.length(); at += 8) {
            String part = text.substring(at, Math.min(text.length(), at + 8));
            script.calls("put(" + Script.characters(part) + ") = " + (at + part.length()));
        }
        return script;
    }

    private static void putCharacters() {
        String text = "a1234567";
        for (int count = 1; count <= 8; count++) {
            Edge.run("9", "`characters`: 1 to 8 characters", "put(\"" + text.substring(0, count) + "\") = " + count + "; link(11) = " + count + "; put(\"~\") = " + (count + 1));
        }
        Edge.run("9", "its lowest 8 bits are the last character, the next 8 bits the one before, and so on",
            "addFlow(1) = 0; put(" + (97L << 8 | 49) + ") = 2; fault() = NONE; load() = 1; put(" + (49L << 8 | 97) + ") = 2; fault() = 0; wipe() = 2",
            "put(\"a1234@56\") = 8; load() = 1; packet(1, 1) = 1234; packet(1, 3) = 56; put(\"a\") = 1; put(\"19\") = 3; put(\"99\") = 5; load() = 1; packet(2, 1) = 1999");
        // Each of the eight places has the edges 33 and 126.
        for (int place = 0; place < 8; place++) {
            Script script = Edge.of("9", "a code is not 33 to 126");
            int size = 0;
            for (int code = 0; code <= 255; code++) {
                boolean asked = code <= 34 || code >= 125 && code <= 129 || code >= 254;
                boolean isZeroAtTop = code == 0 && place == 7;
                if (asked && !isZeroAtTop) {
                    boolean right = code >= 33 && code <= 126;
                    long number = Script.characters("aaaaaaaa") & ~(255L << 8 * place) | (long) code << 8 * place;
                    size += right ? 8 : 0;
                    script.calls("put(" + number + ") = " + (right ? "" + size : "BAD_VALUE"));
                }
            }
            script.calls("link(11) = 32");
        }
        Edge.run("9", "Returns the length of the pad then", "put(\"!\") = 1; put(\"~~~~~~~\") = 8; put(\"~~~~~~~~\") = 16; wipe() = 16; put(\"~\") = 1");
        Edge.run("9", "BAD_VALUE if there is no character", "put(0) = BAD_VALUE; link(11) = 0; put(33) = 1; put(0) = BAD_VALUE; link(11) = 1");
    }

    private static void putZeroBits() {
        String sentence = "8 bits that are 0 mean that there are no more characters, and everything above them has to be 0, too.";
        for (int zero = 0; zero < 7; zero++) {
            long below = (1L << 8 * zero) - 1 & Script.characters("aaaaaaaa");
            String right = zero == 0 ? "BAD_VALUE" : "" + zero;
            Script script = Edge.of("9", sentence).calls("put(" + below + ") = " + right + "; wipe() = " + zero);
            for (int above = zero + 1; above < 8; above++) {
                script.calls("put(" + (below | 97L << 8 * above) + ") = BAD_VALUE; put(" + (below | 1L << 8 * above) + ") = BAD_VALUE; put(" + (below | 1L << 8 * above + 7) + ") = BAD_VALUE");
            }
            script.calls("link(11) = 0");
        }
        Edge.run("9", "a bit above 8 bits that are 0 is not 0",
            "put(" + Long.MIN_VALUE + ") = BAD_VALUE; put(" + (Long.MIN_VALUE | 97) + ") = BAD_VALUE; put(" + (Long.MIN_VALUE | Script.characters("aaaaaaa")) + ") = BAD_VALUE; put(-1) = BAD_VALUE",
            "put(" + Long.MAX_VALUE + ") = BAD_VALUE; put(" + (1L << 16 | 97) + ") = BAD_VALUE; put(" + (1L << 8 | 97) + ") = BAD_VALUE; link(11) = 0; put(97) = 1");
    }

    private static void putIntoPad() {
        for (int count = 1; count <= 8; count++) {
            String part = "zzzzzzzz".substring(0, count);
            Script fits = Edge.of("9", "TOO_MANY if the pad would be longer than 80");
            put(fits, "x".repeat(80 - count)).calls("put(\"" + part + "\") = 80; put(\"" + part + "\") = TOO_MANY; link(11) = 80; put(0) = BAD_VALUE; put(32) = BAD_VALUE; put(\"z\") = TOO_MANY; wipe() = 80");
            Script tooLong = Edge.of("9", "TOO_MANY if the pad would be longer than 80");
            put(tooLong, "x".repeat(81 - count)).calls("put(\"" + part + "\") = TOO_MANY; link(11) = " + (81 - count) + "; put(127) = BAD_VALUE; put(" + (97L << 16) + ") = BAD_VALUE");
            if (count > 1) {
                tooLong.calls("put(\"" + part.substring(1) + "\") = 80");
            }
        }
        Script full = Edge.of(TERMS, "The pad is a text of at most 80 characters");
        put(full, "a1,".repeat(26) + "a1").calls("link(11) = 80; fault() = NONE; put(\"2\") = TOO_MANY; addFlow(1) = 0; load() = 20; link(11) = 0; put(\"2\") = 1");
    }

    private static void wipe() {
        Edge.run("10", "Empties the pad, and returns the length that it had.", "wipe() = 0; link(11) = 0; put(\"a\") = 1; wipe() = 1; link(11) = 0; wipe() = 0; fault() = 0; put(\"abcdefgh\") = 8; wipe() = 8");
        Script full = Edge.of("10", "Empties the pad, and returns the length that it had.");
        put(full, "a1,".repeat(26) + "a1").calls("wipe() = 80; wipe() = 0; link(11) = 0; fault() = 0; load() = BAD_TEXT; put(\"b2\") = 2; fault() = NONE; put(\",b2,b2,b\") = 10");
    }

    /** The fault is where the bar stands; without a bar there is none. */
    private static void dueFault(String section, String sentence, String... marked) {
        for (String text : marked) {
            String plain = text.replace("|", "");
            String due = text.contains("|") ? "" + text.indexOf('|') : "NONE";
            Script script = put(Edge.of(section, sentence, "\"" + plain + "\""), plain);
            script.calls("fault() = " + due + "; fault() = " + due + "; link(11) = " + plain.length() + "; load() = " + (text.contains("|") ? "BAD_TEXT" : "NO_SUCH") + "; link(11) = " + plain.length());
        }
    }

    private static void numbers() {
        String ranges = "The length is 1 to 2000, the number 1 to 9999, the count 1 to 9, all without leading zeros.";
        dueFault(TERMS, ranges, "a1", "a9", "a10", "a19", "a99", "a100", "a199", "a200", "a201", "a999", "a1000", "a1999", "a2000");
        dueFault(TERMS, ranges, "a|0", "a|00", "a|01", "a|09", "a|02000", "a|-1", "a|+1", "a200|1", "a200|9", "a201|0", "a209|9", "a210|0", "a300|0", "a999|9", "a1000|0", "a2000|0", "a1999|9");
        dueFault(TERMS, ranges, "a1@1", "a1@9", "a1@10", "a1@999", "a1@1000", "a1@2001", "a1@9999");
        dueFault(TERMS, ranges, "a1@|0", "a1@|00", "a1@|01", "a1@|0001", "a1@1000|0", "a1@9999|0", "a1@9999|9", "a1@|-1");
        dueFault(TERMS, ranges, "a1*1", "a1*2", "a1*8", "a1*9", "a1@1*1", "a1@1*9", "a2000@9999*9");
        dueFault(TERMS, ranges, "a1*|0", "a1*|01", "a1*1|0", "a1*1|1", "a1*9|0", "a1*9|9", "a1@1*|0", "a1@1*1|0", "a2000@9999*9|9");
    }

    private static void faults() {
        String places = "The fault of a text is the index of the first character that cannot stand at its place when the text is read from left to right";
        dueFault(TERMS, places, "|g1", "|`1", "|A1", "|F1", "|z", "|0", "|1", "|,", "|,a1", "|@", "|*", "|!", "|~");
        dueFault(TERMS, places, "a|a", "a|b1", "a|,", "a|@1", "a|*1", "a|/", "a|:", "a|!", "a|~");
        dueFault(TERMS, places, "a1|a", "a1|/", "a1|:", "a1|;", "a1|+", "a1|-", "a1|.", "a1|?", "a1|A", "a1|)", "a1|!", "a1|~");
        dueFault(TERMS, places, "a1@|@", "a1@|*", "a1@|,", "a1@|a", "a1@|/", "a1@|:", "a1@1|@", "a1@1|a", "a1@1|/", "a1@1|:", "a1@1|;");
        dueFault(TERMS, places, "a1*|*", "a1*|@", "a1*|,", "a1*|a", "a1*|/", "a1*|:", "a1*1|*", "a1*1|@1", "a1*1|a", "a1*1|/", "a1*1|:");
        dueFault(TERMS, places, "a1,|,", "a1,|g", "a1,|1", "a1,|@", "a1,|*", "a1,b|0", "a1,b200|1", "a1,b1@|0", "a1@1,|1", "a1*1,|1", "a1@1*1,|,b1", "a1,b1,c1,d1,e1,f1,|g1");
        dueFault(TERMS, "(also of a digit by which a number would be too great)", "a200|1", "a300|0", "a2000|0", "a1@1000|0", "a1*1|0", "a1,b200|1,c1", "a200|1,", "a200|1@", "a1@9999|9*1");
        dueFault(TERMS, "if there is none and the text ends too early (also if it is empty), it is the length of the text",
            "|", "a|", "f|", "a1@|", "a1*|", "a1@1*|", "a1,|", "a1@1,|", "a1*1,|", "a1,b|", "a1,b1@|", "a1,b1*|", "a2000@9999*9,f|");
        dueFault("11", "Returns the fault of the pad, NONE if there is none.", "a1", "b1", "c1", "d1", "e1", "f1", "a1,a1", "a1,f2000@9999*9", "|", "|x", "a1|x");
        Edge.run(TERMS, "(Whether there are such flows does not matter for this.)",
            "put(\"f1,a1\") = 5; fault() = NONE; load() = NO_SUCH; addFlow(1) = 0; fault() = NONE; load() = NO_SUCH; fault() = NONE; put(\"g\") = 6; fault() = 5; load() = BAD_TEXT");
    }

    private static void faultOfLongTexts() {
        String sentence = "Returns the fault of the pad, NONE if there is none.";
        String whole = "a1,".repeat(26);
        dueFault("11", sentence, whole + "a1", whole + "a|", whole + "|", whole + "|,a", whole + "a|0", whole + "a|x", "|" + "x".repeat(80), "a1" + "|" + "x".repeat(78));
        dueFault("11", sentence, "a2000@9999*9,".repeat(6) + "f9", "a2000@9999*9,".repeat(6) + "f|", "a2000@9999*9,".repeat(6) + "|");
    }

    private static void loadArrivals() {
        String letters = "abcdef";
        for (int flows = 0; flows <= 6; flows++) {
            Script script = Edge.of(TERMS, "The letter names the flow 0 to 5.");
            for (int flow = 0; flow < flows; flow++) {
                script.calls("addFlow(1) = " + flow);
            }
            for (int flow = 0; flow < 6; flow++) {
                script.calls("put(\"" + letters.charAt(flow) + "1\") = 2");
                if (flow < flows) {
                    script.calls("load() = 1; flow(" + flow + ", 14) = 1; packet(" + flow + ", 0) = " + flow + "; link(11) = 0");
                } else {
                    script.calls("load() = NO_SUCH; link(11) = 2; wipe() = 2");
                }
            }
            script.calls("link(6) = " + flows);
        }
        for (int count = 1; count <= 9; count++) {
            Edge.run(TERMS, "An arrival offers so many packets (1 without a count) with this length, one after the other",
                "addFlow(1) = 0; put(\"a7*" + count + "\") = 4; load() = " + count + "; link(6) = " + count + "; flow(0, 7) = " + 7 * count + "; start(" + (count - 1) + ") = " + 7 * (count - 1) + "*UNIT",
                "put(\"a5\") = 2; load() = 1; packet(" + count + ", 1) = 5; packet(" + count + ", 3) = NONE");
        }
        Edge.run(TERMS, "the number is the deadline as ticks from now",
            "addFlow(1) = 0; put(\"a1@1\") = 4; load() = 1; packet(0, 3) = 1; put(\"a1@9999\") = 7; load() = 1; packet(1, 3) = 9999; advance(2000) = 2000; put(\"a1@1\") = 4; load() = 1; packet(2, 3) = 2001",
            "put(\"a1@9999\") = 7; load() = 1; packet(3, 3) = 11999; put(\"a1\") = 2; load() = 1; packet(4, 3) = NONE; packet(4, 2) = 2000");
        Edge.run(TERMS, "The length is 1 to 2000",
            "addFlow(1) = 0; put(\"a1,a2000\") = 8; load() = 2; packet(0, 1) = 1; packet(1, 1) = 2000; put(\"a2001\") = 5; load() = BAD_TEXT; wipe() = 5; put(\"a0\") = 2; load() = BAD_TEXT; link(6) = 2");
    }

    private static void loadErrors() {
        Edge.run("12", "Offers all packets that the pad describes, one after the other, and empties the pad.",
            "addFlow(1) = 0; set(0, ROOM, 2) = 20; put(\"a1\") = 2; load() = 1; link(11) = 0; load() = BAD_TEXT; put(\"a2*2\") = 4; load() = 1; link(11) = 0; put(\"a3\") = 2; load() = 0; link(11) = 0; fault() = 0; link(6) = 2; packet(1, 1) = 2");
        Edge.run("12", "BAD_TEXT if the pad has a fault",
            "addFlow(1) = 0; load() = BAD_TEXT; put(\"a1,\") = 3; load() = BAD_TEXT; link(11) = 3; link(6) = 0; put(\"a1\") = 5; load() = 2; link(11) = 0; load() = BAD_TEXT; link(6) = 2");
        Edge.run("12", "NO_SUCH if it names a flow that does not exist",
            "put(\"a1\") = 2; load() = NO_SUCH; addFlow(1) = 0; put(\",b1\") = 5; load() = NO_SUCH; link(6) = 0; flow(0, 5) = 0; link(11) = 5; addFlow(1) = 1; load() = 2; link(6) = 2; put(\"a1*9,a1\") = 7",
            "put(\",a1,c1\") = 13; load() = NO_SUCH; link(6) = 2; link(11) = 13; flow(0, 5) = 1");
        Edge.run("12", "BAD_TEXT if the pad has a fault; NO_SUCH if it names a flow that does not exist",
            "put(\"a1,\") = 3; load() = BAD_TEXT; put(\"b0\") = 5; load() = BAD_TEXT; wipe() = 5; put(\"f1\") = 2; load() = NO_SUCH; put(\"x\") = 3; load() = BAD_TEXT; link(11) = 3");
        Script full = Edge.of("12", "NO_SUCH if it names a flow that does not exist").calls("addFlow(1) = 0");
        put(full, "a1,".repeat(26) + "b1").calls("load() = NO_SUCH; link(11) = 80; link(6) = 0; addFlow(1) = 1; load() = 21; flow(0, 5) = 20; flow(1, 5) = 1; link(11) = 0");
    }

    private static void loadIntoFullQueues() {
        String sentence = "Packets that offer() would refuse with TOO_MANY are left out.";
        Edge.run("12", sentence,
            "addFlow(1) = 0; addFlow(1) = 1; set(0, ROOM, 1) = 20; set(1, ROOM, 2) = 20; put(\"a5,a6,b7\") = 8; put(\",b8,b9\") = 14; load() = 3; packet(0, 1) = 5; packet(1, 1) = 7; packet(2, 1) = 8; link(6) = 3",
            "amount(0, 0) = 5*UNIT; amount(0, 4) = 5*UNIT; flow(0, 14) = 1; put(\"a1,b1\") = 5; load() = 0; link(11) = 0; link(6) = 3; set(0, ROOM, 2) = 1; put(\"b1,a1\") = 5; load() = 1; packet(3, 0) = 0");
        Script full = Edge.of("12", sentence).calls("addFlow(1) = 0; addFlow(1) = 1");
        put(full, "a1*9,a2*9,a3*1,a4*1,a5*1,b6").calls("load() = 21; flow(0, 5) = 20; packet(18, 1) = 3; packet(19, 1) = 4; packet(20, 1) = 6; packet(20, 0) = 1; flow(0, 7) = 34");
        Script most = Edge.of("12", "Returns how many were accepted");
        for (int flow = 0; flow < 6; flow++) {
            most.calls("addFlow(1) = " + flow);
        }
        put(most, "a1*9,b1*9,c1*9,d1*9,e1*9,f1*9,a1*9,b1*9,c1*9,d1*9,e1*9,f1*9,a1*9,b1*9,c1*9,d1*9")
            .calls("link(11) = 79; load() = 116; link(6) = 116; flow(0, 5) = 20; flow(3, 5) = 20; flow(4, 5) = 18; flow(5, 5) = 18; link(16) = 0; put(\"e1*9,f1\") = 7; load() = 3; link(6) = 119")
            .calls("put(\"f1*9\") = 4; load() = 1; link(6) = 120; link(16) = 0; put(\"a1*9\") = 4; load() = 0; link(6) = 120");
    }

    private static void loadThatWouldForget() {
        Script script = Edge.of("12", "Packets that offer() would refuse with TOO_MANY are left out.").calls("addFlow(1) = 0; addFlow(1) = 1");
        EdgesOfPacketsTest.fill(script, 0, 1);
        script.calls("offer(0, 9, 0) = 2");
        EdgesOfPacketsTest.fill(script, 3, 118);
        // Room for the number 119 and for the two that forget 0 and 1; the next one would forget 2, which waits.
        script.calls("put(\"b1*9\") = 4; load() = 3; link(6) = 122; link(16) = 2; flow(1, 5) = 3; link(11) = 0; put(\"a1,b1\") = 5; load() = 0; cancel(2) = 0; put(\"a1,b1\") = 5; load() = 2; link(16) = 4");
    }
}
