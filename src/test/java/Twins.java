import java.util.function.Supplier;

/** Two objects made alike, of which one gets a call that throws: afterwards both must answer alike. */
final class Twins {
    private static final int MOST_CALLS = 512;

    private final TensorForge forge;
    private final StringBuilder answers = new StringBuilder();
    private int calls = 0;

    private Twins(TensorForge forge) {
        this.forge = forge;
    }

    interface Asked {
        Object of(TensorForge x);
    }

    static void changesNothing(String due, Supplier<TensorForge> made, Asked refused) {
        TensorForge touched = made.get();
        Check.due(due, () -> refused.of(touched));
        Check.same(allAnswers(made.get()), allAnswers(touched));
    }

    /** What an object of a few small nodes can be made to tell of its state; it is used up by that. */
    static String allAnswers(TensorForge x) {
        Twins twin = new Twins(x);
        twin.lookAtNodes();
        twin.lookAtLatestRun();
        twin.runAgain();
        twin.lookAtWeights();
        twin.runEachNode();
        // Some calls were made before; no object is used for more calls than the document says.
        Check.holds("not too many calls: " + twin.calls, twin.calls <= MOST_CALLS - 100);
        return twin.answers.toString();
    }

    private String tell(Check.Call call) {
        calls++;
        String answer = Check.outcome(call);
        answers.append(answer).append(' ');
        return answer;
    }

    private int nodes() {
        int count = 0;
        while (count < 14 && !tell(at -> forge.about(at, 0), count).equals(Check.IAE)) {
            count++;
        }
        return count;
    }

    private interface Numbered {
        Object of(int number);
    }

    private String tell(Numbered call, int number) {
        return tell(() -> call.of(number));
    }

    private void lookAtNodes() {
        int count = nodes();
        for (int node = 0; node < count; node++) {
            for (int what = 1; what <= 7; what++) {
                int asked = what;
                tell(at -> forge.about(at, asked), node);
            }
        }
        tell(forge::peak);
    }

    private void lookAtLatestRun() {
        int cell = 0;
        while (!tell(forge::arena, cell).equals(Check.NSEE)) {
            cell++;
        }
        lookAtResult();
    }

    private void lookAtResult() {
        int cell = 0;
        while (!tell(forge::result, cell).equals(Check.NSEE)) {
            cell++;
        }
    }

    /** Shows the output, and whether all is compiled. */
    private void runAgain() {
        tell(() -> forge.run(Models.ENOUGH));
        tell(forge::compile);
        tell(() -> forge.run(Models.ENOUGH));
        lookAtLatestRun();
    }

    /** Shows the number of the next node, some weights at both ends and the WSCALE, if there is room for nodes. */
    private void lookAtWeights() {
        String made = tell(() -> forge.input(1, 1, 1, 1.0));
        if (made.startsWith("throws")) {
            return;
        }
        int one = Integer.parseInt(made);
        tell(() -> forge.feed(one, 0, Models.bytes(1)));
        tell(() -> forge.dense(one, 8, 0, 1.0));
        tell(() -> forge.dense(one, 8, 496, 16.0));
    }

    private void runEachNode() {
        int count = nodes();
        for (int node = 0; node < count; node++) {
            tell(forge::output, node);
            tell(forge::compile);
            tell(() -> forge.run(Models.ENOUGH));
            lookAtResult();
        }
    }
}
