import java.util.ArrayList;
import java.util.List;
import java.util.Random;

/**
 * Random runs of 512 calls, the same ones in every test: each answer of FairLink must be the one of the Model.
 * The runs differ in their mood: what lengths, how much time, how many wrong arguments.
 */
public final class ModelTest {
    private static final int CALLS = 512;
    // One late run for so many others: each of them makes a million ticks.
    private static final int LATE_PART = 25;
    private static final String[] LETTERS = {"a", "b", "c", "d", "e", "f"};

    private final Random random;
    private final FairLink link = new FairLink();
    private final Model model = new Model();
    private final List<String> calls = new ArrayList<>();
    private final int longest;
    private final int mostTicks;
    private final int latest;
    private final int wrongArguments;
    private final int texts;
    private final boolean crowds;
    private boolean differs = false;

    private ModelTest(long seed) {
        random = new Random(seed);
        longest = oneOf(3, 12, 60, 400, 2000);
        mostTicks = oneOf(3, 20, 100, 600, 2000);
        latest = oneOf(5, 40, 300, 2000, 9999);
        wrongArguments = oneOf(0, 2, 5, 25);
        texts = oneOf(0, 3, 30);
        crowds = random.nextInt(4) == 0;
    }

    public static void main(String[] args) {
        int runs = args.length > 0 ? Integer.parseInt(args[0]) : 400;
        long first = args.length > 1 ? Long.parseLong(args[1]) : 1;
        for (long seed = first; seed < first + runs; seed++) {
            new ModelTest(seed).run(seed);
        }
        for (long seed = first; seed < first + runs / LATE_PART; seed++) {
            new ModelTest(-seed).runLate(seed);
        }
        Script.end();
    }

    private void run(long seed) {
        int firstFlows = random.nextInt(7);
        for (int i = 0; i < firstFlows; i++) {
            addFlow();
        }
        while (calls.size() < CALLS && !differs) {
            call();
        }
        tell(seed);
    }

    /** Up to the last times that are allowed, and a few calls there. */
    private void runLate(long seed) {
        addFlow();
        addFlow();
        for (int i = 0; i < 499 && !differs; i++) {
            due("advance(2000)", link.advance(2000), model.advance(2000));
        }
        offer();
        while (calls.size() < CALLS && !differs) {
            int left = 1000000 - model.link(0);
            int n = random.nextInt(3) == 0 ? between(1, 2000) : Math.min(2001, Math.max(0, left + between(-3, 1)) / oneOf(1, 1, 2));
            int dice = random.nextInt(8);
            if (dice < 3) {
                due("advance(" + n + ")", link.advance(n), model.advance(n));
            } else if (dice < 5) {
                due("awaitDelivery(" + n + ")", link.awaitDelivery(n), model.awaitDelivery(n));
            } else if (dice < 6) {
                offer();
            } else {
                ask();
            }
        }
        tell(-seed);
    }

    private void tell(long seed) {
        if (differs) {
            System.out.println("run " + seed + " up to there: " + String.join("; ", calls));
        }
    }

    private int oneOf(int... values) {
        return values[random.nextInt(values.length)];
    }

    private int between(int least, int greatest) {
        return least + random.nextInt(greatest - least + 1);
    }

    /** Sometimes an argument at or beyond an edge. */
    private int argument(int least, int usual, int greatest) {
        if (random.nextInt(100) < wrongArguments) {
            return oneOf(least - 1, least, greatest, greatest + 1, -1, 0, Integer.MIN_VALUE, Integer.MAX_VALUE, between(least, greatest));
        }
        return between(least, Math.max(least, usual));
    }

    private int someFlow() {
        int flows = model.link(5);
        return argument(0, Math.max(0, flows - 1), Math.max(0, flows - 1));
    }

    private int somePacket() {
        int packets = model.link(6);
        int newest = Math.max(0, packets - 1);
        int oldest = Math.max(0, packets - 120);
        if (random.nextInt(4) == 0) {
            int head = model.flow(someFlow(), 6);
            return head >= 0 ? head : newest;
        }
        if (random.nextInt(2) == 0) {
            return between(Math.max(oldest, newest - 12), newest);
        }
        if (random.nextInt(6) == 0) {
            return oneOf(oldest - 1, oldest, newest, newest + 1);
        }
        return argument(oldest, newest, newest);
    }

    /** Nothing is promised after so many calls. */
    private void due(String call, long got, long want) {
        if (calls.size() >= CALLS) {
            return;
        }
        calls.add(call + " = " + want);
        differs |= got != want;
        Script.due("random run", call, got, want);
    }

    private void call() {
        int dice = random.nextInt(100);
        if (crowds && random.nextInt(5) == 0) {
            bringCrowd();
        } else if (dice < 26) {
            offer();
        } else if (dice < 42) {
            passTime();
        } else if (dice < 52) {
            change();
        } else if (dice < 52 + texts) {
            useTexts();
        } else if (dice < 85) {
            ask();
        } else if (dice < 89) {
            int p = somePacket();
            due("cancel(" + p + ")", link.cancel(p), model.cancel(p));
        } else if (dice < 94) {
            foresee();
        } else if (dice < 97) {
            keep();
        } else {
            askMore();
        }
    }

    private void addFlow() {
        int w = argument(1, 16, 16);
        due("addFlow(" + w + ")", link.addFlow(w), model.addFlow(w));
    }

    private void offer() {
        int f = someFlow();
        int n = argument(1, longest, 2000);
        int d = random.nextInt(3) == 0 ? 0 : argument(0, latest, 9999);
        due("offer(" + f + ", " + n + ", " + d + ")", link.offer(f, n, d), model.offer(f, n, d));
    }

    private void passTime() {
        int n = argument(1, mostTicks, 2000);
        if (random.nextBoolean()) {
            due("advance(" + n + ")", link.advance(n), model.advance(n));
        } else {
            due("awaitDelivery(" + n + ")", link.awaitDelivery(n), model.awaitDelivery(n));
        }
    }

    private void change() {
        if (random.nextInt(8) == 0) {
            addFlow();
        } else if (random.nextInt(3) == 0) {
            int s = argument(0, 3, 3);
            int v = new int[] {argument(0, oneOf(1, 5, 50), 50), argument(0, oneOf(1, 5, 50), 50), argument(0, latest, 1000), argument(0, 1, 1)}[s & 3];
            due("rule(" + s + ", " + v + ")", link.rule(s, v), model.rule(s, v));
        } else {
            int f = someFlow();
            int s = argument(0, 4, 4);
            int v = new int[] {argument(1, 16, 16), argument(1, oneOf(3, 20, 20), 20), argument(0, oneOf(3, longest), 1000),
                argument(0, oneOf(2, 10, mostTicks), 1000), argument(0, 2, 2)}[Math.floorMod(s, 5)];
            due("set(" + f + ", " + s + ", " + v + ")", link.set(f, s, v), model.set(f, s, v));
        }
    }

    private void useTexts() {
        int dice = random.nextInt(10);
        if (dice < 4) {
            putText(someText());
        } else if (dice < 5) {
            long c = random.nextBoolean() ? random.nextLong() >>> 8 * random.nextInt(8) : Script.characters("a1") << 8 * random.nextInt(8);
            due("put(" + c + ")", link.put(c), model.put(c));
        } else if (dice < 7) {
            due("fault()", link.fault(), model.fault());
        } else if (dice < 9) {
            due("load()", link.load(), model.load());
        } else {
            due("wipe()", link.wipe(), model.wipe());
        }
    }

    /** Many short packets at once and time for them, so that the numbers of packets and pieces go round. */
    private void bringCrowd() {
        due("wipe()", link.wipe(), model.wipe());
        due("rule(0, 0)", link.rule(0, 0), model.rule(0, 0));
        StringBuilder text = new StringBuilder();
        for (int i = between(2, 6); i > 0; i--) {
            text.append(LETTERS[random.nextInt(Math.max(1, model.link(5)))]).append(between(1, 2)).append('*').append(between(6, 9)).append(i > 1 ? "," : "");
        }
        putText(text.toString());
        due("load()", link.load(), model.load());
        int n = between(20, 150);
        due("advance(" + n + ")", link.advance(n), model.advance(n));
    }

    private String someText() {
        StringBuilder text = new StringBuilder();
        for (int i = between(1, 4); i > 0; i--) {
            text.append(LETTERS[random.nextInt(Math.max(1, Math.min(6, model.link(5) + (random.nextInt(20) == 0 ? 1 : 0))))]);
            text.append(random.nextInt(10) == 0 ? oneOf(0, 1999, 2000, 2001, 3000, 20000) : between(1, longest));
            if (random.nextInt(3) == 0) {
                text.append('@').append(random.nextInt(10) == 0 ? oneOf(0, 9999, 10000) : between(1, latest));
            }
            if (random.nextInt(2) == 0) {
                text.append('*').append(random.nextInt(10) == 0 ? oneOf(0, 10) : between(1, 9));
            }
            text.append(i > 1 ? "," : "");
        }
        if (random.nextInt(8) == 0) {
            text.setCharAt(random.nextInt(text.length()), "abg@*,0129!~".charAt(random.nextInt(12)));
        }
        return text.toString();
    }

    private void putText(String text) {
        if (model.link(11) > 0 && random.nextInt(3) > 0) {
            putCharacters(",");
        }
        for (int at = 0; at < text.length(); at += 8) {
            putCharacters(text.substring(at, Math.min(text.length(), at + 8)));
        }
    }

    private void putCharacters(String text) {
        long c = Script.characters(text);
        due("put(\"" + text + "\")", link.put(c), model.put(c));
    }

    private void ask() {
        int dice = random.nextInt(6);
        if (dice == 0) {
            int p = somePacket();
            int w = argument(0, 9, 9);
            due("packet(" + p + ", " + w + ")", link.packet(p, w), model.packet(p, w));
        } else if (dice == 1) {
            int f = someFlow();
            int w = argument(0, 14, 14);
            due("flow(" + f + ", " + w + ")", link.flow(f, w), model.flow(f, w));
        } else if (dice == 2) {
            int f = someFlow();
            int w = argument(0, 7, 7);
            due("amount(" + f + ", " + w + ")", link.amount(f, w), model.amount(f, w));
        } else if (dice == 3) {
            int w = argument(0, 16, 16);
            due("link(" + w + ")", link.link(w), model.link(w));
        } else if (dice == 4) {
            int newest = Math.max(0, model.link(15) - 1);
            int p = argument(Math.max(0, newest - 61), newest, newest);
            int w = argument(0, 4, 4);
            due("piece(" + p + ", " + w + ")", link.piece(p, w), model.piece(p, w));
        } else {
            due("virtualTime()", link.virtualTime(), model.virtualTime());
        }
    }

    private void askMore() {
        if (random.nextBoolean()) {
            int a = someFlow();
            int b = someFlow();
            due("apart(" + a + ", " + b + ")", link.apart(a, b), model.apart(a, b));
        } else {
            int p = somePacket();
            due("start(" + p + ")", link.start(p), model.start(p));
        }
    }

    private void foresee() {
        int dice = random.nextInt(3);
        int p = somePacket();
        int n = argument(1, mostTicks, dice == 0 ? 2000 : 1000);
        if (dice == 0) {
            due("forecast(" + p + ", " + n + ")", link.forecast(p, n), model.forecast(p, n));
        } else if (dice == 1) {
            due("leastWeight(" + p + ", " + n + ")", link.leastWeight(p, n), model.leastWeight(p, n));
        } else {
            int f = someFlow();
            int first = argument(0, oneOf(3, longest), 1000);
            int step = argument(1, oneOf(3, longest), 500);
            int count = argument(1, 6, 6);
            due("bestSplit(" + f + ", " + first + ", " + step + ", " + count + ", " + n + ")",
                link.bestSplit(f, first, step, count, n), model.bestSplit(f, first, step, count, n));
        }
    }

    private void keep() {
        int slot = argument(0, 1, 1);
        if (random.nextInt(3) < 2) {
            due("save(" + slot + ")", link.save(slot), model.save(slot));
        } else {
            due("restore(" + slot + ")", link.restore(slot), model.restore(slot));
        }
    }
}
