import java.util.Random;

/**
 * Rule 7 of the language: no call throws, for any arguments in any state, also after the 512th call. Arguments are
 * mostly at an edge of some range or far beyond it.
 */
public final class AnyCallTest {
    private static final int[] EDGES = {Integer.MIN_VALUE, Integer.MIN_VALUE + 1, -1000001, -2001, -121, -61, -6, -2, -1, 0, 1, 2, 3, 4, 5, 6, 7, 8, 9, 10, 14, 15, 16, 17, 20, 21,
        49, 50, 51, 59, 60, 61, 119, 120, 121, 500, 501, 999, 1000, 1001, 1999, 2000, 2001, 9999, 10000, 1000000, 1000001, Integer.MAX_VALUE - 1, Integer.MAX_VALUE};
    private static final String[] ARRIVALS = {"a1*9,b2*", "9,c3@5*9", ",d4,e5,f", "6*3", "a2000@99", "99*9", ",", "b1", "a1", "f9*9"};
    private static final int OBJECTS = 20;
    private static final int CALLS = 10000;

    private final Random random;
    private final FairLink link = new FairLink();

    private AnyCallTest(long seed) {
        random = new Random(seed);
    }

    public static void main(String[] args) {
        for (int seed = 1; seed <= OBJECTS; seed++) {
            AnyCallTest test = new AnyCallTest(seed);
            int made = 0;
            try {
                while (made < CALLS) {
                    test.call();
                    made++;
                }
            } catch (RuntimeException e) {
                System.out.println("object " + seed + " threw in call " + made + ": " + e);
            }
            Script.due("any call", "calls that threw nothing", made, CALLS);
        }
        Script.end();
    }

    private int any() {
        return random.nextInt(20) == 0 ? random.nextInt() : EDGES[random.nextInt(EDGES.length)];
    }

    private int small() {
        return random.nextInt(12) == 0 ? any() : random.nextInt(7);
    }

    private int packet() {
        return random.nextInt(8) == 0 ? any() : link.link(6) - random.nextInt(125);
    }

    private void call() {
        int dice = random.nextInt(60);
        if (dice < 24) {
            change(dice);
        } else if (dice < 34) {
            link.offer(small(), random.nextBoolean() ? any() : 1 + random.nextInt(30), random.nextBoolean() ? 0 : any());
        } else if (dice < 40) {
            link.put(random.nextInt(4) == 0 ? random.nextLong() : Script.characters(ARRIVALS[random.nextInt(ARRIVALS.length)]));
        } else {
            ask(dice);
        }
    }

    private void change(int dice) {
        switch (dice) {
            case 0 -> link.addFlow(any());
            case 1, 2, 3, 4 -> link.set(small(), small(), random.nextBoolean() ? small() : any());
            case 5, 6 -> link.rule(small(), random.nextBoolean() ? small() : any());
            case 7, 8, 9 -> link.cancel(packet());
            case 10 -> link.wipe();
            case 11, 12, 13 -> link.load();
            case 14, 15, 16 -> link.advance(random.nextInt(6) == 0 ? any() : 1 + random.nextInt(60));
            case 17, 18, 19 -> link.awaitDelivery(random.nextInt(6) == 0 ? any() : 1 + random.nextInt(60));
            case 20, 21 -> link.save(small());
            default -> link.restore(small());
        }
    }

    private void ask(int dice) {
        switch (dice) {
            case 40, 41, 42 -> link.packet(packet(), small());
            case 43 -> link.start(packet());
            case 44 -> link.fault();
            case 45, 46, 47 -> link.flow(small(), any());
            case 48, 49 -> link.amount(small(), any());
            case 50 -> link.virtualTime();
            case 51, 52 -> link.link(any());
            case 53, 54 -> link.piece(random.nextBoolean() ? any() : link.link(15) - random.nextInt(65), small());
            case 55 -> link.apart(small(), small());
            case 56, 57 -> link.forecast(packet(), any());
            case 58 -> link.leastWeight(packet(), any());
            default -> link.bestSplit(small(), any(), any(), small(), any());
        }
    }
}
