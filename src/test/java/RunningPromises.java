/** Promises 13 to 20: the output, compiling, feeding, running, and what can be asked. */
final class RunningPromises extends Sentences {
    private static final String OUTPUT = "The OUTPUT is a node. Answers how many cells it has.";
    private static final String COMPILES = "It is SMALLER, PLANNED and COMPILED.";
    private static final String FED = "Eight cells of an INPUT from 'from' on, as for weights"
            + " (as far as it has cells; 'from' must be one).";
    private static final String DONE = "All PLACED nodes are done in order in an ARENA whose cells are 0 before.";
    private static final String SUM = "Answers the sum of all cells of the OUTPUT.";
    private static final String CELL =
            "What cell i of the ARENA, below the PEAK of that time, was after the latest run;";
    private static final String NO_CELL = "no such cell, or no run: NoSuchElementException.";
    private static final String RESULT = "Cell i of the OUTPUT of that time after the latest run, times its SCALE;";
    private static final String NOT_PLACED = "if that is not PLACED: NoSuchElementException.";
    private static final String PEAK = "The PEAK; not COMPILED: IllegalStateException.";

    RunningPromises(Document document) {
        super(document);
    }

    @Override
    void all() {
        promises13And14();
        promise15();
        promise16();
        promise17();
        promise18();
        promise19();
        promise20();
    }

    private void promises13And14() {
        section("Promise 13");
        test(OUTPUT, "the first and the last node, those beside them", this::outputNodes);
        test(OUTPUT, "1 and 128 cells, of a node that stands for another too", this::outputCells);
        test(OUTPUT, "a refused one leaves the output", this::outputRefused);
        section("Promise 14");
        test("There is no OUTPUT: IllegalStateException.", "without and with nodes", this::noOutput);
        test(COMPILES, "all that can be asked only then", this::compiles);
        test(COMPILES, "again, and after more nodes", this::compilesAgain);
        test("Answers how many nodes are PLACED.", "1 and 14, without fused and not needed ones", this::numberPlaced);
    }

    private void promise15() {
        section("Promise 15");
        test(FED, "the first and the last cell, those beside them", this::feedFrom);
        test(FED, "the highest first, with their signs", this::feedBytes);
        test(FED, "as far as it has cells, not around to the first ones", this::feedAtTheEnd);
        test(FED, "no other kind, no other input", this::feedInputsAlone);
        test("Answers how many were set.", "8 down to 1, for each number of cells", this::cellsSet);
    }

    private void promise16() {
        section("Promise 16");
        test("arena 0 or above.", "-1 and 0", this::arenaBelow0);
        test("Not COMPILED: IllegalStateException;", "whatever the arena is", this::runNotCompiled);
        test("it is below the PEAK: UnsupportedOperationException.", "the peak, and one less", this::arenaBelowPeak);
        test(DONE, "again and again, with other cells, weights and outputs", this::runAgain);
        test(DONE, "nothing is left of a larger run", this::nothingIsLeft);
        test(DONE, "in the largest arena, at the last of 512 calls", this::lastCall);
        test(SUM, "the lowest and the highest", this::sums);
        test(SUM, "of an output that stands for another, and not of other nodes", this::sumOfOutputAlone);
    }

    private void promise17() {
        section("Promise 17");
        test(CELL, "the first and the last below the peak", this::arenaCells);
        test(CELL, "the peak of that time, whatever is compiled since", this::arenaOfThatTime);
        test(NO_CELL, "-1, the peak, and far outside", this::noSuchArenaCell);
        test(NO_CELL, "no run, or only refused ones", this::arenaWithoutRun);
    }

    private void promise18() {
        section("Promise 18");
        test(RESULT, "the first and the last, the least and the greatest scale", this::results);
        test(RESULT, "the output of that time, whatever it is now", this::resultOfThatTime);
        test(NO_CELL, "-1, the number of cells, and far outside", this::noSuchResult);
        test(NO_CELL, "no run, or only refused ones", this::resultWithoutRun);
    }

    private void promise19() {
        section("Promise 19");
        test("What of a node: 0 KIND; 1, 2, 3 its h, w, c;", "-1 and 8, wrong nodes, compiled or not", this::aboutMade);
        test("and while COMPILED, else IllegalStateException:", "3 and 4", this::aboutNotCompiled);
        test("4 the node it STANDS FOR;", "itself, and an earlier one, needed or not", this::aboutStandsFor);
        test("5: 0 it is not NEEDED, 1 FUSED, 2 PLACED (of what it STANDS FOR);", "all three, for itself and another",
                this::aboutState);
        test("6 its step, 7 its PLACE, of what it STANDS FOR;", "for itself and another", this::aboutPlan);
        test(NOT_PLACED, "fused and not needed, for itself and another", this::aboutNotPlaced);
    }

    private void promise20() {
        section("Promise 20");
        test(PEAK, "1 and 1024", this::peaks);
        test(PEAK, "before, while and after", this::peakNotCompiled);
    }

    private void outputNodes() {
        TensorForge x = inputs(3);
        for (int node : new int[] {-1, 3, 13, 14, MIN, MAX}) {
            Check.due(IAE, () -> x.output(node));
        }
        Check.due(8, () -> x.output(0));
        Check.due(8, () -> x.output(2));
        TensorForge y = full();
        Check.due(8, () -> y.output(13));
        Check.due(IAE, () -> y.output(14));
    }

    private void outputCells() {
        TensorForge x = new TensorForge();
        x.input(1, 1, 1, 1.0);
        x.input(4, 4, 8, 1.0);
        x.clamp(1, -128, 127);
        x.pool(1, 4, false);
        Check.due(1, () -> x.output(0));
        Check.due(128, () -> x.output(1));
        Check.due(128, () -> x.output(2));
        Check.due(32, () -> x.output(3));
    }

    private void outputRefused() {
        TensorForge x = new TensorForge();
        x.input(1, 1, 1, 1.0);
        x.input(1, 1, 2, 1.0);
        Check.due(IAE, () -> x.output(2));
        Check.due(ISE, x::compile);
        x.output(1);
        Check.due(IAE, () -> x.output(2));
        x.compile();
        Check.due(IAE, () -> x.output(-1));
        Check.due(2, x::peak);
        states(x, 0, 2);
    }

    private void noOutput() {
        TensorForge x = new TensorForge();
        Check.due(ISE, x::compile);
        x.input(1, 1, 1, 1.0);
        Check.due(ISE, x::compile);
        Check.due(ISE, x::peak);
        x.output(0);
        Check.due(1, x::compile);
        Check.due(1, x::compile);
    }

    private void compiles() {
        TensorForge x = inputs(1);
        x.clamp(0, -128, 127);
        x.output(1);
        Check.due(ISE, () -> x.about(1, 4));
        Check.due(ISE, x::peak);
        Check.due(ISE, () -> x.run(8));
        Check.due(1, x::compile);
        Check.due(0, () -> x.about(1, 4));
        Check.due(2, () -> x.about(1, 5));
        Check.due(0, () -> x.about(1, 6));
        Check.due(0, () -> x.about(1, 7));
        Check.due(8, x::peak);
        Check.due(0, () -> x.run(8));
    }

    private void compilesAgain() {
        TensorForge x = inputs(1);
        x.dense(0, 4, 0, 1.0);
        x.clamp(1, 0, 5);
        x.output(2);
        Check.due(2, x::compile);
        Check.due(2, x::compile);
        states(x, 2, 1, 2);
        // What is planned depends on the nodes and the output of now alone.
        x.add(1, 1, 1.0);
        Check.due(2, x::compile);
        states(x, 2, 1, 2, 0);
        x.output(3);
        Check.due(3, x::compile);
        states(x, 2, 2, 0, 2);
        plan(x, 3, 2, 0);
        Check.due(12, x::peak);
        x.output(2);
        Check.due(2, x::compile);
        states(x, 2, 1, 2, 0);
        plan(x, 2, 1, 8);
        Check.due(12, x::peak);
    }

    private void numberPlaced() {
        TensorForge x = full();
        x.output(0);
        Check.due(1, x::compile);
        TensorForge y = inputs(1);
        for (int i = 0; i < 13; i++) {
            y.rescale(i, 1.0 / (2 << i));
        }
        y.output(13);
        Check.due(14, y::compile);
        y.output(12);
        Check.due(13, y::compile);
        TensorForge z = inputs(2);
        z.dense(0, 1, 0, 1.0);
        z.clamp(2, 0, 1);
        z.clamp(3, -128, 127);
        z.output(4);
        Check.due(2, z::compile);
        z.output(2);
        Check.due(2, z::compile);
    }

    private void feedFrom() {
        TensorForge x = new TensorForge();
        x.input(1, 3, 3, 1.0);
        for (int from : new int[] {-1, 9, 10, -8, MIN, MAX, MAX - 7}) {
            Check.due(IAE, () -> x.feed(0, from, -1L));
        }
        Check.same("0 0 0 0 0 0 0 0 0", cells(x, 0));
        Check.due(8, () -> x.feed(0, 0, bytes(1)));
        Check.due(1, () -> x.feed(0, 8, bytes(2)));
        Check.same("1 0 0 0 0 0 0 0 2", cells(x, 0));
        TensorForge y = new TensorForge();
        y.input(4, 4, 8, 1.0);
        Check.due(1, () -> y.feed(0, 127, bytes(1)));
        Check.due(IAE, () -> y.feed(0, 128, bytes(1)));
        TensorForge z = new TensorForge();
        z.input(1, 1, 1, 1.0);
        Check.due(1, () -> z.feed(0, 0, bytes(-7, 5)));
        Check.due(IAE, () -> z.feed(0, 1, bytes(1)));
        Check.same("-7", cells(z, 0));
    }

    private void feedBytes() {
        TensorForge x = new TensorForge();
        x.input(1, 1, 8, 1.0);
        x.feed(0, 0, 0x01ff7f8000fe8155L);
        Check.same("1 -1 127 -128 0 -2 -127 85", cells(x, 0));
        x.feed(0, 0, Long.MIN_VALUE);
        Check.same("-128 0 0 0 0 0 0 0", cells(x, 0));
        x.feed(0, 0, Long.MAX_VALUE);
        Check.same("127 -1 -1 -1 -1 -1 -1 -1", cells(x, 0));
        x.feed(0, 0, 1L);
        Check.same("0 0 0 0 0 0 0 1", cells(x, 0));
        x.feed(0, 0, 0L);
        Check.same("0 0 0 0 0 0 0 0", cells(x, 0));
    }

    private void feedAtTheEnd() {
        TensorForge x = new TensorForge();
        x.input(1, 2, 5, 1.0);
        x.feed(0, 3, bytes(1, 2, 3, 4, 5, 6, 7, 8));
        Check.same("0 0 0 1 2 3 4 5 6 7", cells(x, 0));
        x.feed(0, 2, bytes(-1, -2, -3, -4, -5, -6, -7, -8));
        Check.same("0 0 -1 -2 -3 -4 -5 -6 -7 -8", cells(x, 0));
        x.feed(0, 1, bytes(11, 12, 13, 14, 15, 16, 17, 18));
        Check.same("0 11 12 13 14 15 16 17 18 -8", cells(x, 0));
        x.feed(0, 9, bytes(9, 99, 99, 99, 99, 99, 99, 99));
        Check.same("0 11 12 13 14 15 16 17 18 9", cells(x, 0));
    }

    private void feedInputsAlone() {
        TensorForge x = inputs(2);
        for (Maker maker : Maker.values()) {
            int node = maker.make(x, 0, 2.0);
            Check.due(maker == Maker.INPUT ? "8" : IAE, () -> x.feed(node, 0, 0L));
        }
        for (int node : new int[] {-1, 13, MIN, MAX}) {
            Check.due(IAE, () -> x.feed(node, 0, 0L));
        }
        x.feed(1, 0, bytes(5));
        Check.same("0 0 0 0 0 0 0 0", cells(x, 0));
        Check.same("5 0 0 0 0 0 0 0", cells(x, 1));
    }

    private void cellsSet() {
        for (int c : range(1, 8)) {
            for (int w : range(1, 4)) {
                TensorForge x = new TensorForge();
                x.input(1, w, c, 1.0);
                int number = w * c;
                for (int from : range(0, number - 1)) {
                    Check.due(number - from < 8 ? number - from : 8, () -> x.feed(0, from, 0L));
                }
                Check.due(IAE, () -> x.feed(0, number, 0L));
            }
        }
    }

    private void arenaBelow0() {
        TensorForge x = inputs(1);
        Check.due(IAE, () -> x.run(-1));
        x.output(0);
        Check.due(IAE, () -> x.run(-1));
        x.compile();
        Check.due(IAE, () -> x.run(-1));
        Check.due(IAE, () -> x.run(MIN));
        Check.due(UOE, () -> x.run(0));
    }

    private void runNotCompiled() {
        TensorForge x = inputs(1);
        for (int arena : new int[] {0, 7, 8, ENOUGH, MAX}) {
            Check.due(ISE, () -> x.run(arena));
        }
        x.output(0);
        for (int arena : new int[] {0, 7, 8, ENOUGH, MAX}) {
            Check.due(ISE, () -> x.run(arena));
        }
        x.compile();
        x.clamp(0, 0, 1);
        for (int arena : new int[] {0, 7, 8, ENOUGH, MAX}) {
            Check.due(ISE, () -> x.run(arena));
        }
        Check.due(NSEE, () -> x.arena(0));
    }

    private void arenaBelowPeak() {
        TensorForge x = inputs(1);
        x.feed(0, 0, bytes(1, 1, 1, 1, 1, 1, 1, 1));
        x.rescale(0, 0.5);
        x.output(1);
        x.compile();
        Check.due(16, x::peak);
        for (int arena : new int[] {0, 1, 8, 15}) {
            Check.due(UOE, () -> x.run(arena));
        }
        for (int arena : new int[] {16, 17, ENOUGH, ENOUGH + 1, MAX}) {
            Check.due(16, () -> x.run(arena));
        }
        x.output(0);
        x.compile();
        Check.due(UOE, () -> x.run(7));
        Check.due(8, () -> x.run(8));
    }

    private void runAgain() {
        TensorForge x = new TensorForge();
        fedInput(x, 1, 1, 2, 1.0, 3, 4);
        x.dense(0, 2, 0, 1.0);
        setWeights(x, 0, 1, 1, 2, 0, 0, 0);
        x.add(0, 1, 1.0);
        x.output(2);
        x.compile();
        for (int i = 0; i < 3; i++) {
            // 3 + 7 and 4 + 6.
            Check.due(20, () -> x.run(6));
        }
        x.feed(0, 1, bytes(5));
        // 3 + 8 and 5 + 6.
        Check.due(22, () -> x.run(6));
        x.weights(4, bytes(1, -1));
        Check.due(22, () -> x.run(6));
        Check.due(27.0, () -> x.result(0));
        x.output(1);
        x.compile();
        Check.due(14, () -> x.run(6));
        x.output(2);
        x.compile();
        Check.due(22, () -> x.run(6));
    }

    private void nothingIsLeft() {
        TensorForge x = new TensorForge();
        fedInput(x, 1, 1, 8, 1.0, times(8, 9));
        x.add(0, 0, 1.0);
        x.rescale(1, 2.0);
        x.input(1, 1, 2, 1.0);
        x.dense(3, 3, 0, 1.0);
        x.clamp(4, 0, 9);
        x.output(2);
        x.compile();
        x.run(ENOUGH);
        x.output(5);
        x.compile();
        Check.due(5, x::peak);
        Check.due(0, () -> x.run(ENOUGH));
        for (int cell : range(0, 4)) {
            Check.due(0, () -> x.arena(cell));
        }
        Check.due(NSEE, () -> x.arena(5));
    }

    private void lastCall() {
        TensorForge x = new TensorForge();
        int calls = 0;
        for (int i = 0; i < 7; i++) {
            x.input(4, 4, 8, 1.0);
            calls++;
        }
        x.add(0, 1, 1.0);
        calls++;
        for (int i = 2; i < 7; i++) {
            x.add(5 + i, i, 1.0);
            calls++;
        }
        x.output(12);
        x.compile();
        x.feed(0, 0, bytes(1));
        x.feed(6, 127, bytes(2));
        calls += 4;
        while (calls < 511) {
            Check.due(3, () -> x.run(1024));
            calls++;
        }
        Check.due(2.0, () -> x.result(127));
    }

    private void sums() {
        TensorForge x = new TensorForge();
        fedInput(x, 4, 4, 8, 1.0, times(128, -128));
        x.output(0);
        x.compile();
        Check.due(-16384, () -> x.run(128));
        for (int from = 0; from < 128; from += 8) {
            x.feed(0, from, 0x7f7f7f7f7f7f7f7fL);
        }
        Check.due(16256, () -> x.run(128));
        TensorForge y = new TensorForge();
        fedInput(y, 1, 1, 4, 0.001, 5, -5, 7, -9);
        y.output(0);
        y.compile();
        // Of the cells, without their scale.
        Check.due(-2, () -> y.run(4));
    }

    private void sumOfOutputAlone() {
        TensorForge x = new TensorForge();
        fedInput(x, 1, 1, 4, 1.0, 5, 6, 7, 8);
        x.rescale(0, 1.0);
        x.clamp(1, 6, 7);
        x.dense(2, 1, 0, 1.0);
        x.output(1);
        x.compile();
        Check.due(26, () -> x.run(ENOUGH));
        x.output(2);
        x.compile();
        Check.due(26, () -> x.run(ENOUGH));
        x.output(3);
        x.compile();
        Check.due(0, () -> x.run(ENOUGH));
    }

    /** An input of 8 cells, and 2 and 2 cells of which the last ones lie over the input. */
    private static TensorForge overlapping() {
        TensorForge x = new TensorForge();
        fedInput(x, 1, 1, 8, 0.5, 1, 2, 3, 4, 5, 6, 7, 8);
        setWeights(x, 16, 1, 2);
        x.dense(0, 2, 0, 0.5);
        x.add(1, 1, 0.5);
        x.output(2);
        x.compile();
        return x;
    }

    private void arenaCells() {
        TensorForge x = overlapping();
        Check.due(96, () -> x.run(10));
        // After the run: 2 lies over the input, which is not read any more.
        int[] due = {32, 64, 3, 4, 5, 6, 7, 8, 16, 32};
        for (int cell : range(0, 9)) {
            Check.due(due[cell], () -> x.arena(cell));
        }
        x.feed(0, 7, bytes(-128));
        Check.due(8, () -> x.arena(7));
        x.run(10);
        Check.due(-128, () -> x.arena(7));
    }

    private void arenaOfThatTime() {
        TensorForge x = overlapping();
        x.run(ENOUGH);
        x.output(0);
        Check.due(32, () -> x.arena(9));
        x.compile();
        // The peak is 8 now, but that run had ten cells.
        Check.due(8, x::peak);
        Check.due(32, () -> x.arena(9));
        Check.due(NSEE, () -> x.arena(10));
        x.input(4, 4, 8, 1.0);
        x.output(3);
        x.compile();
        Check.due(128, x::peak);
        Check.due(32, () -> x.arena(9));
        Check.due(NSEE, () -> x.arena(10));
        x.weights(16, bytes(9, 9));
        Check.due(16, () -> x.arena(8));
        x.run(128);
        Check.due(0, () -> x.arena(10));
        Check.due(0, () -> x.arena(127));
        Check.due(NSEE, () -> x.arena(128));
    }

    private void noSuchArenaCell() {
        TensorForge x = overlapping();
        x.run(ENOUGH);
        for (int cell : new int[] {-1, 10, 11, ENOUGH - 1, ENOUGH, MIN, MAX}) {
            Check.due(NSEE, () -> x.arena(cell));
        }
        Check.due(32, () -> x.arena(0));
        Check.due(32, () -> x.arena(9));
        TensorForge y = new TensorForge();
        y.input(1, 1, 1, 1.0);
        y.output(0);
        y.compile();
        y.run(100);
        Check.due(0, () -> y.arena(0));
        Check.due(NSEE, () -> y.arena(1));
    }

    private void arenaWithoutRun() {
        TensorForge x = overlapping();
        for (int cell : new int[] {-1, 0, 9, 10, MIN, MAX}) {
            Check.due(NSEE, () -> x.arena(cell));
        }
        Check.due(IAE, () -> x.run(-1));
        Check.due(UOE, () -> x.run(9));
        Check.due(NSEE, () -> x.arena(0));
        x.run(10);
        Check.due(UOE, () -> x.run(9));
        Check.due(32, () -> x.arena(0));
        x.input(1, 1, 1, 1.0);
        Check.due(ISE, () -> x.run(10));
        Check.due(32, () -> x.arena(0));
    }

    private void results() {
        TensorForge x = new TensorForge();
        x.input(4, 4, 8, 1000000.0);
        x.feed(0, 0, bytes(-128));
        x.feed(0, 127, bytes(127));
        x.output(0);
        x.compile();
        x.run(128);
        Check.due(-128000000.0, () -> x.result(0));
        Check.due(0.0, () -> x.result(1));
        Check.due(127000000.0, () -> x.result(127));
        TensorForge y = new TensorForge();
        fedInput(y, 1, 1, 4, Double.MIN_VALUE, -128, 127, 0, 1);
        y.output(0);
        y.compile();
        y.run(4);
        Check.due(-128 * Double.MIN_VALUE, () -> y.result(0));
        Check.due(127 * Double.MIN_VALUE, () -> y.result(1));
        Check.due(0.0, () -> y.result(2));
        Check.due(Double.MIN_VALUE, () -> y.result(3));
        TensorForge z = new TensorForge();
        fedInput(z, 1, 1, 3, 0.1, 3, -7, 127);
        z.output(0);
        z.compile();
        z.run(3);
        Check.due(3 * 0.1, () -> z.result(0));
        Check.due(-7 * 0.1, () -> z.result(1));
        Check.due(127 * 0.1, () -> z.result(2));
    }

    private void resultOfThatTime() {
        TensorForge x = overlapping();
        x.run(ENOUGH);
        Check.due(16.0, () -> x.result(0));
        Check.due(32.0, () -> x.result(1));
        x.output(0);
        Check.due(32.0, () -> x.result(1));
        Check.due(NSEE, () -> x.result(2));
        x.compile();
        x.feed(0, 0, bytes(9, 9, 9));
        x.weights(16, bytes(9, 9));
        Check.due(16.0, () -> x.result(0));
        Check.due(NSEE, () -> x.result(2));
        x.run(8);
        Check.due(4.5, () -> x.result(2));
        Check.due(0.0, () -> x.result(7));
        x.rescale(0, 0.25);
        x.clamp(3, -128, 127);
        x.output(4);
        x.compile();
        x.run(ENOUGH);
        // 18 times the scale of what the output stands for.
        Check.due(4.5, () -> x.result(2));
    }

    private void noSuchResult() {
        TensorForge x = overlapping();
        x.run(ENOUGH);
        // The arena has ten cells, the output two.
        for (int cell : new int[] {-1, 2, 3, 9, 10, ENOUGH, MIN, MAX}) {
            Check.due(NSEE, () -> x.result(cell));
        }
        x.output(0);
        x.compile();
        x.run(ENOUGH);
        Check.due(4.0, () -> x.result(7));
        Check.due(NSEE, () -> x.result(8));
    }

    private void resultWithoutRun() {
        TensorForge x = overlapping();
        for (int cell : new int[] {-1, 0, 1, 2, MIN, MAX}) {
            Check.due(NSEE, () -> x.result(cell));
        }
        Check.due(IAE, () -> x.run(-1));
        Check.due(UOE, () -> x.run(9));
        Check.due(NSEE, () -> x.result(0));
        x.run(10);
        x.feed(0, 0, bytes(100));
        Check.due(UOE, () -> x.run(9));
        Check.due(16.0, () -> x.result(0));
        x.output(0);
        Check.due(ISE, () -> x.run(10));
        Check.due(16.0, () -> x.result(0));
    }

    /** 1 stands for 0, 2 is fused into 3, 4 stands for 2, 5 is not needed, 6 stands for 5. */
    private static TensorForge ofAllStates() {
        TensorForge x = new TensorForge();
        x.input(1, 2, 3, 1.0);
        x.clamp(0, -128, 127);
        x.dense(1, 4, 0, 1.0);
        x.clamp(2, 0, 9);
        x.rescale(2, 1.0);
        x.clamp(0, 0, 9);
        x.clamp(1, 0, 9);
        x.output(3);
        return x;
    }

    private void aboutMade() {
        TensorForge x = ofAllStates();
        aboutMade(x);
        x.compile();
        aboutMade(x);
        x.run(ENOUGH);
        aboutMade(x);
    }

    private static void aboutMade(TensorForge x) {
        for (int what : new int[] {-1, 8, 9, MIN, MAX}) {
            Check.due(IAE, () -> x.about(0, what));
        }
        for (int node : new int[] {-1, 7, 14, MIN, MAX}) {
            for (int what : range(-1, 8)) {
                Check.due(IAE, () -> x.about(node, what));
            }
        }
        int[] kinds = {0, 9, 3, 9, 10, 9, 9};
        String[] shapes = {"1 2 3", "1 2 3", "1 1 4", "1 1 4", "1 1 4", "1 2 3", "1 2 3"};
        for (int node : range(0, 6)) {
            Check.due(kinds[node], () -> x.about(node, 0));
            Check.same(shapes[node], shape(x, node));
        }
    }

    private void aboutNotCompiled() {
        TensorForge x = ofAllStates();
        aboutThrows(x);
        x.compile();
        Check.due(0, () -> x.about(0, 4));
        x.input(1, 1, 1, 1.0);
        aboutThrows(x);
        x.compile();
        Check.due(0, () -> x.about(0, 4));
        x.output(3);
        aboutThrows(x);
    }

    private static void aboutThrows(TensorForge x) {
        for (int node : range(0, 6)) {
            for (int what : range(4, 7)) {
                Check.due(ISE, () -> x.about(node, what));
            }
        }
        Check.due(3, () -> x.about(0, 3));
    }

    private void aboutStandsFor() {
        TensorForge x = ofAllStates();
        x.compile();
        standsFor(x, 0, 0, 2, 3, 2, 5, 5);
        x.output(0);
        x.compile();
        standsFor(x, 0, 0, 2, 3, 2, 5, 5);
    }

    private void aboutState() {
        TensorForge x = ofAllStates();
        x.compile();
        states(x, 2, 2, 1, 2, 1, 0, 0);
        x.output(4);
        x.compile();
        states(x, 2, 2, 2, 0, 2, 0, 0);
        x.output(6);
        x.compile();
        states(x, 2, 2, 0, 0, 0, 2, 2);
    }

    private void aboutPlan() {
        TensorForge x = ofAllStates();
        x.compile();
        plan(x, 0, 0, 0);
        plan(x, 1, 0, 0);
        plan(x, 3, 1, 6);
        x.output(4);
        x.compile();
        plan(x, 2, 1, 6);
        plan(x, 4, 1, 6);
        x.output(6);
        x.compile();
        plan(x, 5, 1, 6);
        plan(x, 6, 1, 6);
    }

    private void aboutNotPlaced() {
        TensorForge x = ofAllStates();
        x.compile();
        for (int node : new int[] {2, 4, 5, 6}) {
            Check.due(NSEE, () -> x.about(node, 6));
            Check.due(NSEE, () -> x.about(node, 7));
        }
        x.output(6);
        x.compile();
        for (int node : new int[] {2, 3, 4}) {
            Check.due(NSEE, () -> x.about(node, 6));
            Check.due(NSEE, () -> x.about(node, 7));
        }
    }

    private void peaks() {
        TensorForge x = new TensorForge();
        x.input(1, 1, 1, 1.0);
        for (int i = 0; i < 7; i++) {
            x.input(4, 4, 8, 1.0);
        }
        x.add(1, 2, 1.0);
        for (int i = 3; i < 8; i++) {
            x.add(5 + i, i, 1.0);
        }
        x.output(0);
        x.compile();
        Check.due(1, x::peak);
        x.output(13);
        x.compile();
        Check.due(1024, x::peak);
    }

    private void peakNotCompiled() {
        TensorForge x = new TensorForge();
        Check.due(ISE, x::peak);
        x.input(1, 1, 5, 1.0);
        Check.due(ISE, x::peak);
        x.output(0);
        Check.due(ISE, x::peak);
        x.compile();
        Check.due(5, x::peak);
        x.run(5);
        Check.due(5, x::peak);
        x.output(0);
        Check.due(ISE, x::peak);
        x.compile();
        Check.due(5, x::peak);
        x.clamp(0, 0, 1);
        Check.due(ISE, x::peak);
    }
}
