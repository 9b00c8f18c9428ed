import java.util.function.ToIntFunction;

/** The terms of what is compiled, made smaller, needed, fused and placed. */
final class SmallerTerms extends Sentences {
    private static final String COMPILED =
            "COMPILED or not (not at first, and not any more when a node is made or the OUTPUT set).";
    private static final String IN_ORDER = "SMALLER: each node STANDS FOR itself or an earlier one:"
            + " looking at the nodes in order, with inputs taken as what they STAND FOR:";
    private static final String SAME_SCALE = "a RESCALE to the input's SCALE STAND FOR their input;";
    private static final String FIRST =
            "else a node but an INPUT STANDS FOR the first earlier node that STANDS FOR itself";
    private static final String ALIKE = "and has the same KIND, inputs (in this order), SHAPE, SCALE, code, OFFSET,"
            + " WSCALE, low and high (as far as its KIND has them).";
    private static final String NEEDED =
            "NEEDED: what the OUTPUT STANDS FOR, and what the inputs of NEEDED nodes STAND FOR.";
    private static final String FUSABLE =
            "A NEEDED CONV, DEPTHWISE or DENSE that is not what the OUTPUT STANDS FOR is FUSED";
    private static final String ONE_USER = "if just one NEEDED node has it as an input (as what that STANDS FOR),";
    private static final String PLACED = "PLACED are the NEEDED nodes that are not FUSED;";

    SmallerTerms(Document document) {
        super(document);
    }

    @Override
    void all() {
        test(COMPILED, "not at first", this::notCompiledAtFirst);
        test(COMPILED, "not any more when a node is made, of each kind", this::makingUndoes);
        test(COMPILED, "not any more when the output is set, to the same node too", this::outputUndoes);
        test(COMPILED, "still, whatever else is called", this::othersDoNotUndo);
        test("OUTPUT: a node or none (at first).", "none, and the first and last node", this::outputs);
        test(IN_ORDER, "chains, and copies that are seen only through them", this::inOrder);
        test("a RESHAPE to the input's SHAPE,", "and to another one, and back", this::reshapes);
        test("a CLAMP with low -128 and high 127,", "and with one more or less", this::clamps);
        test(SAME_SCALE, "and to the next one, and back", this::rescales);
        test(FIRST, "not an input", this::inputsStandForThemselves);
        test(FIRST, "the first of three", this::firstOfThree);
        test(FIRST, "not one that stands for its input", this::notOneThatStandsForAnother);
        test(ALIKE, "another KIND", this::otherKind);
        test(ALIKE, "other inputs, or in another order", this::otherInputs);
        test(ALIKE, "another SHAPE", this::otherShape);
        test(ALIKE, "another SCALE", this::otherScale);
        test(ALIKE, "another code", this::otherCode);
        test(ALIKE, "another OFFSET", this::otherOffset);
        test(ALIKE, "another WSCALE", this::otherWeightScale);
        test(ALIKE, "a WSCALE that its KIND does not have", this::foreignWeightScale);
        test(ALIKE, "another low or high", this::otherLimits);
        needed();
        fused();
        placed();
    }

    private void needed() {
        test(NEEDED, "nothing else, and nothing behind the output", this::neededAlone);
        test(NEEDED, "through what they stand for", this::neededThrough);
    }

    private void fused() {
        test(FUSABLE, "each of the three kinds", this::fusableKinds);
        test(FUSABLE, "no other kind", this::otherKindsAreNotFused);
        test(FUSABLE, "not the output, nor what it stands for", this::outputIsNotFused);
        test(FUSABLE, "not one that is not needed", this::notNeededIsNotFused);
        test(ONE_USER, "two clamps", this::twoClamps);
        test(ONE_USER, "a second one that is not needed, or that stands for the first", this::secondIsNotNeeded);
        test(ONE_USER, "through a clamp that changes nothing", this::throughAnother);
        test("just once,", "an add has it twice", this::usedTwice);
        test("and that is a CLAMP.", "any other kind", this::notAClamp);
    }

    private void placed() {
        test(PLACED, "one, all fourteen, and without the fused", this::placedNodes);
        test("they are done in order, steps 0, 1, ..;", "with gaps where nodes are fused or not needed", this::steps);
        test("each CLAMP of a FUSED node does both.", "cut first, then clamped", this::clampDoesBoth);
    }

    private void notCompiledAtFirst() {
        TensorForge x = new TensorForge();
        Check.due(ISE, x::peak);
        Check.due(ISE, () -> x.run(ENOUGH));
        x.input(1, 1, 1, 1.0);
        x.output(0);
        Check.due(ISE, x::peak);
        Check.due(ISE, () -> x.run(ENOUGH));
        Check.due(ISE, () -> x.about(0, 4));
        x.compile();
        Check.due(1, x::peak);
        Check.due(0, () -> x.run(ENOUGH));
        Check.due(0, () -> x.about(0, 4));
    }

    private static TensorForge compiledInput() {
        TensorForge x = inputs(1);
        x.output(0);
        x.compile();
        return x;
    }

    private static void isCompiled(boolean compiled, TensorForge x) {
        Check.due(compiled ? "8" : ISE, x::peak);
        Check.due(compiled ? "0" : ISE, () -> x.run(ENOUGH));
        Check.due(compiled ? "0" : ISE, () -> x.about(0, 4));
    }

    private void makingUndoes() {
        for (Maker maker : Maker.values()) {
            TensorForge x = compiledInput();
            maker.make(x, 0);
            isCompiled(false, x);
            x.compile();
            isCompiled(true, x);
        }
    }

    private void outputUndoes() {
        TensorForge x = compiledInput();
        x.output(0);
        isCompiled(false, x);
        x.compile();
        isCompiled(true, x);
    }

    private void othersDoNotUndo() {
        TensorForge x = compiledInput();
        x.weights(0, 1L);
        isCompiled(true, x);
        x.weightScale(2.0);
        isCompiled(true, x);
        x.feed(0, 0, 0L);
        isCompiled(true, x);
        x.run(8);
        isCompiled(true, x);
        x.arena(0);
        x.result(0);
        x.about(0, 0);
        x.peak();
        isCompiled(true, x);
        x.compile();
        isCompiled(true, x);
        Check.due(IAE, () -> x.output(1));
        isCompiled(true, x);
        for (Maker maker : Maker.values()) {
            Check.due(IAE, () -> maker.takesNode() ? maker.make(x, 1) : maker.make(x, 0, 0.0));
            isCompiled(true, x);
        }
        Check.due(AE, () -> x.rescale(0, 0.00001));
        isCompiled(true, x);
        Check.due(UOE, () -> x.run(7));
        isCompiled(true, x);
    }

    private void outputs() {
        TensorForge x = new TensorForge();
        Check.due(ISE, x::compile);
        x.input(1, 1, 1, 1.0);
        x.input(1, 1, 2, 1.0);
        Check.due(ISE, x::compile);
        Check.due(IAE, () -> x.output(2));
        Check.due(IAE, () -> x.output(-1));
        Check.due(ISE, x::compile);
        Check.due(2, () -> x.output(1));
        Check.due(1, x::compile);
        states(x, 0, 2);
        Check.due(1, () -> x.output(0));
        Check.due(1, x::compile);
        states(x, 2, 0);
        // It stays the output when other nodes are made.
        x.input(1, 1, 3, 1.0);
        Check.due(1, x::compile);
        states(x, 2, 0, 0);
    }

    private void inOrder() {
        TensorForge x = inputs(1);
        x.clamp(0, -128, 127);
        x.reshape(1, 2, 2, 2);
        x.rescale(2, 1.0);
        x.clamp(3, 0, 9);
        x.clamp(0, 0, 9);
        x.add(4, 5, 1.0);
        x.add(5, 4, 1.0);
        x.add(4, 4, 1.0);
        x.concat(6, 8);
        x.clamp(7, 1, 5);
        x.clamp(8, 1, 5);
        x.output(9);
        Check.due(4, x::compile);
        standsFor(x, 0, 0, 0, 0, 4, 4, 6, 6, 6, 9, 10, 10);
    }

    private void reshapes() {
        TensorForge x = inputs(1);
        x.reshape(0, 2, 2, 2);
        x.reshape(0, 1, 4, 2);
        x.reshape(0, 4, 1, 2);
        x.reshape(0, 2, 4, 1);
        // To what the input has now, not to what it once had.
        x.reshape(2, 1, 4, 2);
        x.reshape(2, 2, 2, 2);
        x.output(6);
        x.compile();
        standsFor(x, 0, 0, 2, 3, 4, 2, 6);
        TensorForge y = new TensorForge();
        y.input(4, 4, 8, 1.0);
        y.reshape(0, 4, 4, 8);
        y.output(1);
        Check.due(1, y::compile);
        standsFor(y, 0, 0);
    }

    private void clamps() {
        TensorForge x = inputs(1);
        x.clamp(0, -128, 127);
        x.clamp(0, -127, 127);
        x.clamp(0, -128, 126);
        x.clamp(2, -128, 127);
        x.clamp(0, 127, 127);
        x.clamp(0, -128, -128);
        // As wide as its input already is, but not as wide as all.
        x.clamp(2, -127, 127);
        x.output(7);
        x.compile();
        standsFor(x, 0, 0, 2, 3, 2, 5, 6, 7);
    }

    private void rescales() {
        TensorForge x = inputs(1);
        x.rescale(0, 1.0);
        x.rescale(0, Math.nextUp(1.0));
        x.rescale(0, Math.nextDown(1.0));
        x.rescale(2, Math.nextUp(1.0));
        // Back again: the input's scale is another one.
        x.rescale(2, 1.0);
        x.rescale(1, 1.0);
        x.output(5);
        x.compile();
        standsFor(x, 0, 0, 2, 3, 2, 5, 0);
    }

    private void inputsStandForThemselves() {
        TensorForge x = inputs(3);
        x.feed(1, 0, bytes(5));
        x.add(0, 1, 1.0);
        x.add(0, 2, 1.0);
        x.output(4);
        x.compile();
        standsFor(x, 0, 1, 2, 3, 4);
    }

    private void firstOfThree() {
        TensorForge x = inputs(1);
        for (int i = 0; i < 3; i++) {
            x.pool(0, 1, true);
        }
        x.pool(1, 0, false);
        x.pool(2, 0, false);
        x.pool(3, 0, false);
        x.output(6);
        Check.due(3, x::compile);
        standsFor(x, 0, 1, 1, 1, 4, 4, 4);
    }

    private void notOneThatStandsForAnother() {
        TensorForge x = inputs(1);
        // 1 stands for 0, and so does 2; 3 has another input.
        x.rescale(0, 1.0);
        x.rescale(1, 1.0);
        x.rescale(2, 2.0);
        x.rescale(3, 2.0);
        x.rescale(4, 1.0);
        x.output(5);
        Check.due(3, x::compile);
        standsFor(x, 0, 0, 0, 3, 3, 5);
    }

    /** Two nodes over the inputs 0 and 1, and whether the second stands for the first. */
    private static void alike(boolean alike, ToIntFunction<TensorForge> first, ToIntFunction<TensorForge> second) {
        TensorForge x = inputs(2);
        Check.due(2, () -> first.applyAsInt(x));
        Check.due(3, () -> second.applyAsInt(x));
        x.output(3);
        x.compile();
        standsFor(x, 0, 1, 2, alike ? 2 : 3);
    }

    private void otherKind() {
        for (Maker one : Maker.values()) {
            for (Maker other : Maker.values()) {
                // A scale of 2.0, so that no rescale stands for its input.
                boolean same = one == other && one != Maker.INPUT;
                alike(same, x -> one.make(x, 0, 2.0), x -> other.make(x, 0, 2.0));
            }
        }
        // Alike in all but their kind, and in what they do.
        TensorForge y = new TensorForge();
        y.input(2, 2, 1, 1.0);
        y.windows(0, 12, false, 0, 1.0);
        y.windows(0, 0, true, 0, 1.0);
        y.pool(0, 0, false);
        y.pool(0, 0, true);
        y.output(1);
        y.compile();
        standsFor(y, 0, 1, 2, 3, 4);
    }

    private void otherInputs() {
        for (Maker maker : Maker.values()) {
            alike(false, x -> maker.make(x, 0, 2.0), x -> maker.make(x, 1, 2.0));
        }
        alike(true, x -> x.add(0, 1, 1.0), x -> x.add(0, 1, 1.0));
        alike(false, x -> x.add(0, 1, 1.0), x -> x.add(1, 0, 1.0));
        alike(false, x -> x.add(0, 1, 1.0), x -> x.add(0, 0, 1.0));
        alike(false, x -> x.add(0, 1, 1.0), x -> x.add(1, 1, 1.0));
        alike(true, x -> x.concat(0, 1), x -> x.concat(0, 1));
        alike(false, x -> x.concat(0, 1), x -> x.concat(1, 0));
        alike(false, x -> x.concat(0, 1), x -> x.concat(0, 0));
    }

    private void otherShape() {
        alike(false, x -> x.reshape(0, 1, 4, 2), x -> x.reshape(0, 4, 1, 2));
        alike(false, x -> x.reshape(0, 1, 4, 2), x -> x.reshape(0, 2, 4, 1));
        alike(false, x -> x.reshape(0, 2, 1, 4), x -> x.reshape(0, 1, 2, 4));
        alike(false, x -> x.dense(0, 1, 0, 1.0), x -> x.dense(0, 2, 0, 1.0));
        alike(false, x -> x.windows(0, 12, false, 0, 1.0), x -> x.windows(0, 24, false, 0, 1.0));
    }

    private void otherScale() {
        for (Maker maker : Maker.values()) {
            if (maker.hasRatio()) {
                alike(false, x -> maker.make(x, 0, 2.0), x -> maker.make(x, 0, Math.nextUp(2.0)));
                alike(true, x -> maker.make(x, 0, 0.1), x -> maker.make(x, 0, 0.1));
            }
        }
    }

    private void otherCode() {
        for (int code : range(1, 11)) {
            if (code % 3 != 2 || code >= 6) {
                alike(false, x -> x.pool(0, 0, false), x -> x.pool(0, code, false));
                alike(false, x -> x.pool(0, 0, true), x -> x.pool(0, code, true));
                alike(false, x -> x.windows(0, 0, true, 0, 1.0), x -> x.windows(0, code, true, 0, 1.0));
                alike(false, x -> x.windows(0, 12, false, 0, 1.0), x -> x.windows(0, 12 + code, false, 0, 1.0));
                alike(true, x -> x.pool(0, code, true), x -> x.pool(0, code, true));
            }
        }
    }

    private void otherOffset() {
        alike(false, x -> x.dense(0, 1, 0, 1.0), x -> x.dense(0, 1, 1, 1.0));
        alike(false, x -> x.windows(0, 12, false, 0, 1.0), x -> x.windows(0, 12, false, 1, 1.0));
        alike(false, x -> x.windows(0, 0, true, 0, 1.0), x -> x.windows(0, 0, true, 1, 1.0));
        alike(true, x -> x.dense(0, 1, 503, 1.0), x -> x.dense(0, 1, 503, 1.0));
    }

    private static int withWeightScale(TensorForge x, double weightScale, Maker maker, double scale) {
        x.weightScale(weightScale);
        return maker.make(x, 0, scale);
    }

    private void otherWeightScale() {
        for (Maker maker : new Maker[] {Maker.CONV, Maker.DEPTHWISE, Maker.DENSE}) {
            alike(false, x -> maker.make(x, 0), x -> withWeightScale(x, Math.nextUp(1.0), maker, 1.0));
            alike(true, x -> maker.make(x, 0), x -> withWeightScale(x, 1.0, maker, 1.0));
            alike(false, x -> withWeightScale(x, 2.0, maker, 2.0), x -> withWeightScale(x, 1.0, maker, 1.0));
        }
    }

    private void foreignWeightScale() {
        for (Maker maker : Maker.values()) {
            boolean weighted = maker == Maker.CONV || maker == Maker.DEPTHWISE || maker == Maker.DENSE;
            if (!weighted && maker != Maker.INPUT) {
                alike(true, x -> maker.make(x, 0, 2.0), x -> withWeightScale(x, 3.0, maker, 2.0));
            }
        }
    }

    private void otherLimits() {
        alike(true, x -> x.clamp(0, -5, 5), x -> x.clamp(0, -5, 5));
        alike(false, x -> x.clamp(0, -5, 5), x -> x.clamp(0, -4, 5));
        alike(false, x -> x.clamp(0, -5, 5), x -> x.clamp(0, -5, 6));
        alike(false, x -> x.clamp(0, 0, 0), x -> x.clamp(0, 0, 1));
        alike(false, x -> x.clamp(0, 0, 0), x -> x.clamp(0, -1, 0));
    }

    private void neededAlone() {
        TensorForge x = inputs(2);
        x.clamp(0, 0, 1);
        x.clamp(1, 0, 1);
        x.clamp(2, 1, 2);
        x.add(2, 3, 1.0);
        x.output(2);
        Check.due(2, x::compile);
        states(x, 2, 0, 2, 0, 0, 0);
        x.output(5);
        Check.due(5, x::compile);
        states(x, 2, 2, 2, 2, 0, 2);
        x.output(0);
        Check.due(1, x::compile);
        states(x, 2, 0, 0, 0, 0, 0);
    }

    private void neededThrough() {
        TensorForge x = inputs(2);
        x.clamp(1, -128, 127);
        x.clamp(0, 0, 9);
        x.clamp(0, 0, 9);
        x.add(2, 4, 1.0);
        x.rescale(5, 1.0);
        x.output(6);
        Check.due(4, x::compile);
        // Of what each one stands for: 2 for 1, 4 for 3, 6 for 5.
        standsFor(x, 0, 1, 1, 3, 3, 5, 5);
        states(x, 2, 2, 2, 2, 2, 2, 2);
        x.output(4);
        Check.due(2, x::compile);
        states(x, 2, 0, 0, 2, 2, 0, 0);
    }

    private void fusableKinds() {
        for (Maker maker : new Maker[] {Maker.CONV, Maker.DEPTHWISE, Maker.DENSE}) {
            TensorForge x = inputs(1);
            maker.make(x, 0);
            x.clamp(1, 0, 5);
            x.output(2);
            Check.due(2, x::compile);
            states(x, 2, 1, 2);
        }
    }

    private void otherKindsAreNotFused() {
        for (Maker maker : new Maker[] {Maker.ADD, Maker.CONCAT, Maker.RESHAPE, Maker.MAX, Maker.AVERAGE, Maker.CLAMP,
            Maker.RESCALE}) {
            TensorForge x = inputs(1);
            maker.make(x, 0, 2.0);
            x.clamp(1, 1, 5);
            x.output(2);
            Check.due(3, x::compile);
            states(x, 2, 2, 2);
        }
        TensorForge y = inputs(1);
        y.clamp(0, 0, 5);
        y.output(1);
        Check.due(2, y::compile);
        states(y, 2, 2);
    }

    private void outputIsNotFused() {
        TensorForge x = inputs(1);
        x.dense(0, 2, 0, 1.0);
        x.clamp(1, 0, 5);
        x.clamp(1, -128, 127);
        for (int output : new int[] {1, 3}) {
            x.output(output);
            Check.due(2, x::compile);
            states(x, 2, 2, 0, 2);
        }
        x.output(2);
        Check.due(2, x::compile);
        states(x, 2, 1, 2, 1);
    }

    private void notNeededIsNotFused() {
        TensorForge x = inputs(1);
        x.dense(0, 2, 0, 1.0);
        x.clamp(1, 0, 5);
        x.output(0);
        Check.due(1, x::compile);
        states(x, 2, 0, 0);
    }

    private void twoClamps() {
        TensorForge x = inputs(1);
        x.dense(0, 2, 0, 1.0);
        x.clamp(1, 0, 5);
        x.clamp(1, 0, 6);
        x.add(2, 3, 1.0);
        x.output(4);
        Check.due(5, x::compile);
        states(x, 2, 2, 2, 2, 2);
        // One behind the other: only the first one has it as an input.
        TensorForge y = inputs(1);
        y.dense(0, 2, 0, 1.0);
        y.clamp(1, 0, 5);
        y.clamp(2, 1, 4);
        y.output(3);
        Check.due(3, y::compile);
        states(y, 2, 1, 2, 2);
    }

    private void secondIsNotNeeded() {
        TensorForge x = inputs(1);
        x.dense(0, 2, 0, 1.0);
        x.clamp(1, 0, 5);
        x.rescale(1, 2.0);
        x.clamp(1, 0, 6);
        x.clamp(1, 0, 5);
        x.add(2, 5, 1.0);
        x.output(6);
        Check.due(3, x::compile);
        standsFor(x, 0, 1, 2, 3, 4, 2, 6);
        states(x, 2, 1, 2, 0, 0, 2, 2);
    }

    private void throughAnother() {
        TensorForge x = inputs(1);
        x.dense(0, 2, 0, 1.0);
        x.clamp(1, -128, 127);
        x.rescale(2, 1.0);
        x.clamp(3, 0, 5);
        x.output(4);
        Check.due(2, x::compile);
        states(x, 2, 1, 1, 1, 2);
        // A copy that stands for it counts as it.
        TensorForge y = inputs(1);
        y.dense(0, 2, 0, 1.0);
        y.dense(0, 2, 0, 1.0);
        y.clamp(1, 0, 5);
        y.clamp(2, 0, 6);
        y.add(3, 4, 1.0);
        y.output(5);
        Check.due(5, y::compile);
        states(y, 2, 2, 2, 2, 2, 2);
        y.output(4);
        Check.due(2, y::compile);
        states(y, 2, 1, 1, 0, 2, 0);
    }

    private void usedTwice() {
        TensorForge x = inputs(1);
        x.dense(0, 2, 0, 1.0);
        x.add(1, 1, 1.0);
        x.concat(1, 1);
        x.clamp(1, 0, 5);
        x.add(1, 4, 1.0);
        for (int output : new int[] {2, 3}) {
            x.output(output);
            Check.due(3, x::compile);
            Check.due(2, () -> x.about(1, 5));
        }
        // Once by a clamp and once by an add.
        x.output(5);
        Check.due(4, x::compile);
        states(x, 2, 2, 0, 0, 2, 2);
        x.add(4, 1, 1.0);
        x.output(6);
        Check.due(4, x::compile);
        states(x, 2, 2, 0, 0, 2, 0, 2);
        // Once by a clamp and twice by an add.
        x.add(4, 2, 1.0);
        x.output(7);
        Check.due(5, x::compile);
        states(x, 2, 2, 2, 0, 2, 0, 0, 2);
    }

    private void notAClamp() {
        for (Maker maker : Maker.values()) {
            if (maker.takesNode() && maker != Maker.CLAMP) {
                TensorForge x = inputs(1);
                x.windows(0, 0, true, 0, 1.0);
                maker.make(x, 1, 2.0);
                x.output(2);
                Check.due(3, x::compile);
                states(x, 2, 2, 2);
            }
        }
    }

    private void placedNodes() {
        TensorForge x = inputs(14);
        x.output(13);
        Check.due(1, x::compile);
        states(x, 0, 0, 0, 0, 0, 0, 0, 0, 0, 0, 0, 0, 0, 2);
        TensorForge y = inputs(1);
        for (int i = 0; i < 13; i++) {
            y.clamp(i, i, 100);
        }
        y.output(13);
        Check.due(14, y::compile);
        states(y, times(14, 2));
        TensorForge z = inputs(1);
        for (int i = 0; i < 12; i += 2) {
            z.windows(i, 0, true, 0, 1.0);
            z.clamp(i + 1, 0, 9);
        }
        z.output(12);
        Check.due(7, z::compile);
        states(z, 2, 1, 2, 1, 2, 1, 2, 1, 2, 1, 2, 1, 2);
    }

    private void steps() {
        TensorForge x = inputs(2);
        x.dense(1, 2, 0, 1.0);
        x.clamp(0, 0, 1);
        x.clamp(2, 0, 5);
        x.clamp(2, -128, 127);
        x.rescale(4, 2.0);
        x.output(6);
        Check.due(3, x::compile);
        int[] steps = {-1, 0, -1, -1, 1, -1, 2};
        for (int node : range(0, 6)) {
            Check.due(steps[node] < 0 ? NSEE : String.valueOf(steps[node]), () -> x.about(node, 6));
        }
        TensorForge y = inputs(1);
        for (int i = 0; i < 13; i++) {
            y.clamp(i, i, 100);
        }
        y.output(13);
        y.compile();
        for (int node : range(0, 13)) {
            Check.due(node, () -> y.about(node, 6));
        }
    }

    private void clampDoesBoth() {
        TensorForge x = new TensorForge();
        fedInput(x, 1, 1, 4, 1.0, 100, -100, 3, -3);
        setWeights(x, 0, 2, 2, 2, 2, 0, 0, 0, 0);
        x.windows(0, 0, true, 0, 1.0);
        x.clamp(1, -5, 126);
        x.clamp(1, -127, 5);
        // 200 is cut to 127 and -200 to -128 before they are clamped.
        Check.same("126 -5 6 -5", cells(x, 2));
        Check.due(1, () -> x.about(1, 5));
        Check.same("5 -127 5 -6", cells(x, 3));
        Check.due(1, () -> x.about(1, 5));
        Check.same("127 -128 6 -6", cells(x, 1));
    }
}
