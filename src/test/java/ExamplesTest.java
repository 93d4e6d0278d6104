import java.util.List;

/** The five examples of the section "Terms", call by call: as they stand here, and as the document has them now. */
public final class ExamplesTest {
    private static final String[] EXAMPLES = {
        "addFlow(1) = 0; addFlow(2) = 1; offer(0, 10, 0) = 0; offer(0, 10, 0) = 1; offer(1, 10, 0) = 2; advance(13) = 13;"
            + " link(7) = 2; advance(12) = 25; piece(1, 1) = 1; virtualTime() = 7207200; packet(0, 8) = 13",
        "addFlow(1) = 0; set(0, 2, 4) = 0; offer(0, 10, 0) = 0; advance(1) = 1; link(8) = 4; link(9) = 6;"
            + " awaitDelivery(100) = 0; link(0) = 18; packet(0, 6) = 3; flow(0, 12) = 18",
        "addFlow(1) = 0; addFlow(1) = 1; offer(0, 20, 0) = 0; offer(1, 5, 12) = 1; packet(1, 9) = 1; advance(1) = 1;"
            + " link(7) = 1; link(10) = 1",
        "addFlow(2) = 0; set(0, 3, 3) = 0; offer(0, 4, 0) = 0; advance(7) = 7; amount(0, 2) = 1441440; advance(2) = 9;"
            + " amount(0, 2) = 0; amount(0, 3) = 1441440",
        "addFlow(1) = 0; put(27361528087601713L) = 7; load() = -1; addFlow(1) = 1; load() = 3; link(6) = 3;"
            + " put(24880L) = 2; fault() = 1"};

    public static void main(String[] args) {
        for (int i = 0; i < EXAMPLES.length; i++) {
            Script.run("example " + (i + 1), EXAMPLES[i]);
        }
        if (Document.isThere()) {
            List<String> said = Document.examples();
            Script.due("examples", "number of examples in the document", said.size(), EXAMPLES.length);
            for (int i = 0; i < said.size(); i++) {
                Script.run("example " + (i + 1) + " of the document", said.get(i));
            }
        }
        Script.end();
    }
}
