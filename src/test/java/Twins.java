import java.util.ArrayList;
import java.util.List;

/**
 * Whether a call changes nothing: two new objects are led to the same state, one of them has the call besides, and
 * then both are asked the same, at once and after each of some later calls. All answers must be the same ones.
 */
final class Twins {
    private static final String[] LATER = {"", "advance(1)", "advance(60)", "awaitDelivery(2000)", "load()", "addFlow(16)", "offer(0, 3, 5)", "cancel(1)", "wipe()",
        "restore(0)", "restore(1)", "save(0);advance(5);restore(0)"};
    private static final int MOST_NUMBERS = 12;

    private final String title;
    private final String lead;
    private final int leadCalls;
    private final String[] later;
    private final List<String> questions = new ArrayList<>();
    private final List<Long> without;

    Twins(String title, String lead) {
        this(title, lead, LATER);
    }

    Twins(String title, String lead, String... later) {
        this.title = title;
        this.lead = lead;
        this.later = later;
        Script probe = new Script(title).calls(lead);
        leadCalls = probe.made();
        collectQuestions((int) probe.ask("link(5)"), (int) probe.ask("link(6)"), (int) probe.ask("link(15)"));
        without = answers("");
    }

    /** Each call is written with what it has to answer. */
    Twins unchangedBy(String... texts) {
        for (String text : texts) {
            for (String call : text.split("; ")) {
                List<Long> with = answers(call);
                int differences = 0;
                for (int i = 0; i < without.size(); i++) {
                    differences += with.get(i).equals(without.get(i)) ? 0 : 1;
                }
                Script.due(title, call + " and then " + without.size() + " questions, answered otherwise without it", differences, 0);
            }
        }
        return this;
    }

    private List<Long> answers(String call) {
        List<Long> answers = new ArrayList<>();
        for (String then : later) {
            int asked = 0;
            while (asked < questions.size()) {
                Script script = new Script(title).calls(lead).calls(call);
                for (String step : then.isEmpty() ? new String[0] : then.split(";")) {
                    answers.add(script.ask(step));
                }
                // The same number of questions with the call and without it, or the answers would not stand side by side.
                int most = Script.MOST_CALLS - leadCalls - 1 - then.split(";").length;
                for (int i = 0; i < most && asked < questions.size(); i++) {
                    answers.add(script.ask(questions.get(asked)));
                    asked++;
                }
            }
        }
        return answers;
    }

    private void collectQuestions(int flows, int packets, int pieces) {
        questions.add("virtualTime()");
        questions.add("fault()");
        for (int what = 0; what <= 16; what++) {
            questions.add("link(" + what + ")");
        }
        for (int flow = 0; flow <= flows; flow++) {
            collect("flow", flow, 14);
            collect("amount", flow, 7);
            questions.add("apart(0, " + flow + ")");
        }
        for (int number : some(Math.max(0, packets - 120), packets)) {
            collect("packet", number, 9);
            questions.add("start(" + number + ")");
            questions.add("forecast(" + number + ", 2000)");
        }
        for (int number : some(Math.max(0, pieces - 60), pieces)) {
            collect("piece", number, 4);
        }
    }

    private void collect(String name, int number, int greatestWhat) {
        for (int what = 0; what <= greatestWhat; what++) {
            questions.add(name + "(" + number + ", " + what + ")");
        }
    }

    /** The first and the last numbers with one beside them on both sides; all of them if they are few. */
    private static List<Integer> some(int first, int end) {
        List<Integer> numbers = new ArrayList<>();
        for (int number = first - 1; number <= end; number++) {
            if (number < first + MOST_NUMBERS / 2 || number > end - MOST_NUMBERS / 2) {
                numbers.add(number);
            }
        }
        return numbers;
    }
}
