import java.util.List;
import java.util.function.Supplier;

/** The terms of what is thrown, in which order, and that it changes nothing. */
final class ThrownTerms extends Sentences {
    private static final String ORDER = "What is thrown, in this order:";
    private static final String ARGUMENT = "IllegalArgumentException: a number, node or SHAPE that is out of range"
            + " or does not go with what is said,";
    private static final String SCALES = "a SCALE that is not above 0.0 or above 1000000.0;";
    private static final String RATIO = "ArithmeticException: a RATIO that is not GOOD;";
    private static final String STATE =
            "IllegalStateException: as the calls say, for those that make a node: 14 are there.";
    private static final String NOTHING = "A call that throws changes nothing.";

    ThrownTerms(Document document) {
        super(document);
    }

    @Override
    void all() {
        test(ORDER, "what makes a node, when all is wrong at once", this::orderOfMaking);
        test(ORDER, "each wrong argument comes before a bad ratio", this::argumentsBeforeRatios);
        test(ORDER, "run, about, compile and peak", this::orderOfRunning);
        test(ARGUMENT, "each argument on each side, of each call", this::eachArgument);
        test(SCALES, "0.0, 1000000.0 and what lies next to them, of each call", this::scales);
        test(RATIO, "too small and too large, of each kind", this::ratios);
        test(STATE, "thirteen and fourteen, of each kind", this::thirteenAndFourteen);
        test(STATE, "what makes no node goes on with fourteen", this::fourteenAndNoMore);
        nothing();
    }

    private void nothing() {
        List<Supplier<TensorForge>> states = List.of(ThrownTerms::made, ThrownTerms::withOutput,
                ThrownTerms::compiled, ThrownTerms::ran, ThrownTerms::ranAndChanged, ThrownTerms::fullAndRan);
        String[] names = {"no output", "an output", "compiled", "after a run", "changed after a run", "full"};
        for (int i : range(0, names.length - 1)) {
            Supplier<TensorForge> state = states.get(i);
            test(NOTHING, "an argument is wrong: " + names[i], () -> eachChangesNothing(IAE, state, wrongArguments()));
            test(NOTHING, "a ratio is not good: " + names[i], () -> eachChangesNothing(AE, state, wrongRatios()));
        }
        test(NOTHING, "a new object", this::newObject);
        test(NOTHING, "fourteen are there", () -> eachChangesNothing(ISE, ThrownTerms::fullAndRan, makingCalls()));
        test(NOTHING, "not compiled", this::notCompiled);
        test(NOTHING, "the arena is too small", this::arenaTooSmall);
        test(NOTHING, "no such cell", this::noSuchCell);
        test(NOTHING, "not placed", this::notPlaced);
    }

    private void orderOfMaking() {
        TensorForge full = full();
        TensorForge room = inputs(13);
        for (Maker maker : Maker.values()) {
            if (maker.hasRatio()) {
                Check.due(IAE, () -> maker.make(full, 14, 0.00001));
                Check.due(IAE, () -> maker.make(full, 0, 0.0));
                Check.due(AE, () -> maker.make(full, 0, 0.00001));
                Check.due(IAE, () -> maker.make(room, 13, 0.00001));
                Check.due(AE, () -> maker.make(room, 0, 0.00001));
            }
            Check.due(IAE, () -> maker.takesNode() ? maker.make(full, 14) : maker.make(full, 0, 0.0));
            Check.due(ISE, () -> maker.make(full, 0));
        }
    }

    private void argumentsBeforeRatios() {
        double bad = 0.00001;
        TensorForge x = full();
        Check.due(IAE, () -> x.windows(0, 2 + 12, false, 0, bad));
        Check.due(IAE, () -> x.windows(0, 11, false, 0, bad));
        Check.due(IAE, () -> x.windows(0, 12, true, 0, bad));
        Check.due(IAE, () -> x.windows(0, 12, false, 510, bad));
        Check.due(IAE, () -> x.windows(0, 0, true, 509, bad));
        Check.due(IAE, () -> x.windows(0, 0, true, -1, bad));
        Check.due(IAE, () -> x.dense(0, 9, 0, bad));
        Check.due(IAE, () -> x.dense(0, 0, 0, bad));
        Check.due(IAE, () -> x.dense(0, 1, 504, bad));
        Check.due(IAE, () -> x.dense(0, 1, -1, bad));
        Check.due(IAE, () -> x.add(0, 14, bad));
        Check.due(IAE, () -> x.add(14, 0, bad));
        Check.due(IAE, () -> x.rescale(-1, bad));
        Check.due(AE, () -> x.windows(0, 12, false, 509, bad));
        Check.due(AE, () -> x.windows(0, 0, true, 508, bad));
        Check.due(AE, () -> x.dense(0, 1, 503, bad));
        TensorForge y = inputs(1);
        y.input(2, 2, 1, 1.0);
        Check.due(IAE, () -> y.add(0, 1, bad));
        Check.due(IAE, () -> y.add(1, 0, bad));
        Check.due(AE, () -> y.add(1, 1, bad));
    }

    private void orderOfRunning() {
        TensorForge x = new TensorForge();
        Check.due(IAE, () -> x.run(-1));
        Check.due(ISE, () -> x.run(0));
        Check.due(IAE, () -> x.about(0, 4));
        Check.due(ISE, x::compile);
        Check.due(ISE, x::peak);
        x.input(1, 1, 2, 1.0);
        x.input(1, 1, 2, 1.0);
        x.output(0);
        Check.due(IAE, () -> x.run(MIN));
        Check.due(ISE, () -> x.run(0));
        Check.due(ISE, () -> x.run(1));
        Check.due(IAE, () -> x.about(0, 8));
        Check.due(IAE, () -> x.about(2, 6));
        Check.due(ISE, () -> x.about(1, 6));
        x.compile();
        Check.due(IAE, () -> x.run(-1));
        Check.due(UOE, () -> x.run(0));
        Check.due(UOE, () -> x.run(1));
        Check.due(IAE, () -> x.about(2, 6));
        Check.due(IAE, () -> x.about(1, 8));
        Check.due(NSEE, () -> x.about(1, 6));
    }

    private void eachArgument() {
        TensorForge x = made();
        for (Twins.Asked wrong : wrongArguments()) {
            Check.due(IAE, () -> wrong.of(x));
        }
    }

    private void scales() {
        for (Maker maker : Maker.values()) {
            if (maker.takesScale()) {
                for (double wrong : WRONG_SCALES) {
                    TensorForge x = inputs(1);
                    Check.due(IAE, () -> maker.make(x, 0, wrong));
                    Check.due(1, () -> x.input(1, 1, 1, 1.0));
                }
                TensorForge y = new TensorForge();
                y.input(2, 2, 2, 1000000.0);
                y.input(2, 2, 2, Double.MIN_VALUE);
                Check.due(2, () -> maker.make(y, 0, 1000000.0));
                Check.due(3, () -> maker.make(y, 0, Math.nextDown(1000000.0)));
                Check.due(4, () -> maker.make(y, 1, Double.MIN_VALUE));
            }
        }
        TensorForge z = inputs(1);
        for (double wrong : WRONG_SCALES) {
            Check.due(IAE, () -> weightScale(z, wrong));
        }
        Check.due("done", () -> weightScale(z, 1000000.0));
        Check.due(1, () -> z.dense(0, 1, 0, 1000000.0));
        Check.due("done", () -> weightScale(z, Double.MIN_VALUE));
        Check.due(2, () -> z.dense(0, 1, 0, Double.MIN_VALUE));
    }

    private void ratios() {
        for (Maker maker : Maker.values()) {
            if (maker.hasRatio()) {
                TensorForge x = inputs(1);
                x.input(2, 2, 2, 0.00000005);
                Check.due(AE, () -> maker.make(x, 0, 0.00003));
                Check.due(AE, () -> maker.make(x, 1, 1.0));
                Check.due(2, () -> maker.make(x, 0, 0.00004));
                Check.due(3, () -> maker.make(x, 1, 0.4));
            }
        }
    }

    private void thirteenAndFourteen() {
        for (Maker maker : Maker.values()) {
            TensorForge x = inputs(13);
            Check.due(13, () -> maker.make(x, 0));
            for (Maker other : Maker.values()) {
                Check.due(ISE, () -> other.make(x, 0));
            }
        }
    }

    private void fourteenAndNoMore() {
        TensorForge x = full();
        Check.due(8, () -> x.weights(0, 1L));
        Check.due("done", () -> weightScale(x, 2.0));
        Check.due(8, () -> x.output(13));
        Check.due(1, x::compile);
        Check.due(8, () -> x.feed(13, 0, bytes(1, 1, 1, 1, 1, 1, 1, 1)));
        Check.due(8, () -> x.run(8));
        Check.due(1, () -> x.arena(7));
        Check.due(1.0, () -> x.result(7));
        Check.due(0, () -> x.about(13, 6));
        Check.due(8, x::peak);
    }

    /** Seven small nodes of seven kinds; weights and WSCALE are set, the input is fed. */
    private static TensorForge made() {
        TensorForge x = new TensorForge();
        setWeights(x, 0, 1, -2, 3, -4, 5, -6, 7, -8, 0, 0, 0, 0, 0, 0, 0, 1);
        setWeights(x, 496, 9, 8, 7, 6, 5, 4, 3, 2, 1, 2, 3, 4, -5, -6, -7, -8);
        x.weightScale(0.5);
        fedInput(x, 2, 2, 2, 1.0, 10, 20, -30, 40, 50, -60, 70, 80);
        x.windows(0, 1 + 12, false, 0, 1.0);
        x.clamp(1, -20, 20);
        x.pool(0, 1, true);
        x.concat(2, 3);
        x.reshape(0, 1, 1, 8);
        x.rescale(5, 2.0);
        return x;
    }

    private static TensorForge withOutput() {
        TensorForge x = made();
        x.output(4);
        return x;
    }

    private static TensorForge compiled() {
        TensorForge x = withOutput();
        x.compile();
        return x;
    }

    private static TensorForge ran() {
        TensorForge x = compiled();
        x.run(ENOUGH);
        return x;
    }

    private static TensorForge ranAndChanged() {
        TensorForge x = ran();
        x.feed(0, 0, bytes(1));
        x.weights(8, bytes(2));
        x.output(6);
        x.compile();
        return x;
    }

    private static TensorForge fullAndRan() {
        TensorForge x = made();
        for (int i = 0; i < 7; i++) {
            x.input(1, 1, 1, 1.0);
        }
        x.output(4);
        x.compile();
        x.run(ENOUGH);
        return x;
    }

    private static void eachChangesNothing(String due, Supplier<TensorForge> made, List<Twins.Asked> calls) {
        for (Twins.Asked call : calls) {
            Twins.changesNothing(due, made, call);
        }
    }

    /** Calls that are wrong in every state of the seven nodes, full or not. */
    private static List<Twins.Asked> wrongArguments() {
        return List.of(
                x -> x.weights(-1, -1L), x -> x.weights(512, -1L), x -> x.weights(MIN, -1L), x -> x.weights(MAX, -1L),
                x -> weightScale(x, 0.0), x -> weightScale(x, Math.nextUp(1000000.0)), x -> weightScale(x, -1.0),
                x -> weightScale(x, Double.NaN), x -> weightScale(x, Double.POSITIVE_INFINITY),
                x -> x.input(0, 1, 1, 1.0), x -> x.input(5, 1, 1, 1.0), x -> x.input(1, 0, 1, 1.0),
                x -> x.input(1, 5, 1, 1.0), x -> x.input(1, 1, 0, 1.0), x -> x.input(1, 1, 9, 1.0),
                x -> x.input(1, 1, 1, 0.0), x -> x.input(1, 1, 1, Math.nextUp(1000000.0)),
                x -> x.windows(-1, 12, false, 0, 1.0), x -> x.windows(14, 12, false, 0, 1.0),
                x -> x.windows(0, 11, false, 0, 1.0), x -> x.windows(0, 108, false, 0, 1.0),
                x -> x.windows(0, -1, true, 0, 1.0), x -> x.windows(0, 12, true, 0, 1.0),
                x -> x.windows(0, 2, true, 0, 1.0), x -> x.windows(0, 5 + 12, false, 0, 1.0),
                x -> x.windows(0, 12, false, -1, 1.0), x -> x.windows(0, 12, false, 510, 1.0),
                x -> x.windows(0, 0, true, -1, 1.0), x -> x.windows(0, 0, true, 509, 1.0),
                x -> x.windows(0, 12, false, MAX, 1.0), x -> x.windows(0, 0, true, 0, 0.0),
                x -> x.dense(-1, 1, 0, 1.0), x -> x.dense(14, 1, 0, 1.0), x -> x.dense(0, 0, 0, 1.0),
                x -> x.dense(0, 9, 0, 1.0), x -> x.dense(0, 1, -1, 1.0), x -> x.dense(0, 1, 504, 1.0),
                x -> x.dense(0, 1, MAX, 1.0), x -> x.dense(0, 1, 0, -1.0),
                x -> x.add(-1, 0, 1.0), x -> x.add(0, -1, 1.0), x -> x.add(14, 0, 1.0), x -> x.add(0, 14, 1.0),
                x -> x.add(0, 5, 1.0), x -> x.add(0, 0, 0.0),
                x -> x.concat(-1, 0), x -> x.concat(0, -1), x -> x.concat(14, 0), x -> x.concat(0, 14),
                x -> x.concat(0, 1), x -> x.concat(5, 6), x -> x.concat(5, 1),
                x -> x.reshape(-1, 2, 2, 2), x -> x.reshape(14, 2, 2, 2), x -> x.reshape(0, 2, 2, 1),
                x -> x.reshape(0, 8, 1, 1), x -> x.reshape(0, -2, -4, 1),
                x -> x.pool(-1, 0, false), x -> x.pool(14, 0, true), x -> x.pool(0, -1, false),
                x -> x.pool(0, 12, true), x -> x.pool(0, 2, false), x -> x.pool(0, 5, true),
                x -> x.clamp(-1, 0, 0), x -> x.clamp(14, 0, 0), x -> x.clamp(0, -129, 0), x -> x.clamp(0, 0, 128),
                x -> x.clamp(0, 1, 0), x -> x.rescale(-1, 1.0), x -> x.rescale(14, 1.0), x -> x.rescale(0, 0.0),
                x -> x.output(-1), x -> x.output(14), x -> x.output(MIN), x -> x.output(MAX),
                x -> x.feed(-1, 0, -1L), x -> x.feed(14, 0, -1L), x -> x.feed(1, 0, -1L), x -> x.feed(6, 0, -1L),
                x -> x.feed(0, -1, -1L), x -> x.feed(0, 8, -1L), x -> x.feed(0, MAX, -1L), x -> x.feed(0, MIN, -1L),
                x -> x.run(-1), x -> x.run(MIN),
                x -> x.about(-1, 0), x -> x.about(14, 0), x -> x.about(0, -1), x -> x.about(0, 8));
    }

    private static List<Twins.Asked> wrongRatios() {
        return List.of(
                x -> x.windows(0, 12, false, 0, 0.00001), x -> x.windows(0, 0, true, 0, 0.00001),
                x -> x.dense(0, 1, 0, 0.00001), x -> x.add(0, 0, 0.00001), x -> x.add(5, 6, 0.00001),
                x -> x.rescale(0, 0.00001), x -> x.rescale(0, Double.MIN_VALUE));
    }

    private static List<Twins.Asked> makingCalls() {
        return List.of(
                x -> x.input(1, 1, 1, 1.0), x -> x.windows(0, 12, false, 0, 1.0), x -> x.windows(0, 0, true, 0, 1.0),
                x -> x.dense(0, 1, 0, 1.0), x -> x.add(0, 0, 1.0), x -> x.concat(0, 0), x -> x.reshape(0, 1, 1, 8),
                x -> x.pool(0, 0, false), x -> x.pool(0, 0, true), x -> x.clamp(0, 0, 1), x -> x.rescale(0, 2.0));
    }

    private void newObject() {
        List<Twins.Asked> arguments = wrongArguments();
        eachChangesNothing(IAE, TensorForge::new, arguments);
        eachChangesNothing(ISE, TensorForge::new, List.of(TensorForge::compile, TensorForge::peak, x -> x.run(0),
                x -> x.run(MAX)));
        eachChangesNothing(NSEE, TensorForge::new, List.of(x -> x.arena(0), x -> x.result(0)));
    }

    private void notCompiled() {
        List<Twins.Asked> calls = List.of(TensorForge::peak, x -> x.run(0), x -> x.run(MAX), x -> x.about(0, 4),
                x -> x.about(0, 5), x -> x.about(0, 6), x -> x.about(0, 7));
        eachChangesNothing(ISE, ThrownTerms::made, calls);
        eachChangesNothing(ISE, ThrownTerms::withOutput, calls);
        eachChangesNothing(ISE, ThrownTerms::made, List.of(TensorForge::compile));
    }

    private void arenaTooSmall() {
        List<Twins.Asked> calls = List.of(x -> x.run(0), x -> x.run(1), x -> x.run(x.peak() - 1));
        eachChangesNothing(UOE, ThrownTerms::compiled, calls);
        eachChangesNothing(UOE, ThrownTerms::ran, calls);
        eachChangesNothing(UOE, ThrownTerms::ranAndChanged, calls);
    }

    private void noSuchCell() {
        List<Twins.Asked> none = List.of(x -> x.arena(0), x -> x.result(0));
        eachChangesNothing(NSEE, ThrownTerms::made, none);
        eachChangesNothing(NSEE, ThrownTerms::compiled, none);
        List<Twins.Asked> outside = List.of(x -> x.arena(-1), x -> x.arena(ENOUGH), x -> x.arena(MAX),
                x -> x.arena(MIN), x -> x.result(-1), x -> x.result(3), x -> x.result(MAX), x -> x.result(MIN));
        eachChangesNothing(NSEE, ThrownTerms::ran, outside);
        eachChangesNothing(NSEE, ThrownTerms::ranAndChanged, outside);
    }

    private void notPlaced() {
        // 1 is fused, 5 and 6 are not needed.
        List<Twins.Asked> calls = List.of(x -> x.about(1, 6), x -> x.about(1, 7), x -> x.about(5, 6),
                x -> x.about(6, 7));
        eachChangesNothing(NSEE, ThrownTerms::compiled, calls);
        eachChangesNothing(NSEE, ThrownTerms::ran, calls);
    }
}
