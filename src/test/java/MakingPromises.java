/** Promises 1 to 12: a new object, the weights, and what makes nodes. */
final class MakingPromises extends Sentences {
    private static final String BYTES = "eight WEIGHTS from there on (as far as there are places)"
            + " are the bytes of the number, the highest first, each with its sign.";
    private static final String ALL_THERE = "WEIGHTS and BIASES must all be there.";
    private static final String ADDED = "Makes an ADD; both RATIOS must be GOOD.";
    private static final String POOLED = "Makes a MAX, or an AVERAGE; code 0 .. 11.";
    private static final String CLAMPED = "Makes a CLAMP; -128 .. low .. high .. 127.";

    MakingPromises(Document document) {
        super(document);
    }

    @Override
    void all() {
        promise1();
        promise2();
        promise3();
        promise4();
        promise5();
        promise6();
        promises7To12();
    }

    private void promise1() {
        section("Promise 1");
        test("No nodes.", "each call that takes one refuses node 0", this::noNodes);
        test("No nodes.", "no output, no run, nothing compiled", this::nothingElse);
        test("No nodes.", "objects share nothing", this::objectsShareNothing);
    }

    private void promise2() {
        section("Promise 2");
        test("offset 0 .. 511:", "-1, 0, 511 and 512", this::weightOffsets);
        test(BYTES, "the highest first, with their signs", this::weightBytes);
        test(BYTES, "eight, and not those beside them", this::eightWeights);
        test(BYTES, "as far as there are places, not around to the first ones", this::weightsAtTheEnd);
        test("Answers how many were set.", "8 down to 1", this::weightsSet);
    }

    private void promise3() {
        section("Promise 3");
        test("WSCALE is the value.", "the least, the greatest, and the first ones refused", this::weightScales);
        test("WSCALE is the value.", "for nodes made later, until the next one", this::weightScaleFromThenOn);
    }

    private void promise4() {
        section("Promise 4");
        test("Makes an INPUT.", "the smallest and the largest", this::inputIsMade);
        test("Answers its number (so for all that make a node).", "0 to 13, a refused call takes none",
                this::numbersOfNodes);
    }

    private void promise5() {
        section("Promise 5");
        test("depthwise false: a CONV with d output channels, 1 .. 8;", "0, 1, 8 and 9", this::convChannels);
        test("code is windows + 12 d then, windows 0 .. 11;", "all of them, and those beside them", this::convCodes);
        test("true: a DEPTHWISE, code 0 .. 11.", "-1, 0, 11 and 12, and no channels of its own", this::depthwiseCodes);
        test(ALL_THERE, "the last offset and the next one, for every conv", this::convWeightsThere);
        test(ALL_THERE, "just all 512, and more than that", this::convOfAllWeights);
        test(ALL_THERE, "the last offset and the next one, for every depthwise", this::depthwiseWeightsThere);
        test(ALL_THERE, "ends that wrap around", this::windowOffsetsFarOutside);
    }

    private void promise6() {
        section("Promise 6");
        test("Makes a DENSE with d outputs, 1 .. 8.", "0, 1, 8 and 9", this::denseOutputs);
        test(ALL_THERE, "the last offset and the next one", this::denseWeightsThere);
        test(ALL_THERE, "just all 512, and more than that", this::denseOfAllWeights);
        test(ALL_THERE, "ends that wrap around", this::denseOffsetsFarOutside);
    }

    private void promises7To12() {
        section("Promise 7");
        test(ADDED, "the first one, the second one, both", this::addRatios);
        test(ADDED, "the last cell of the largest shape", this::addOfFullShapes);
        section("Promise 8");
        test("Makes a CONCAT.", "of one channel each, and to eight of the largest", this::concats);
        section("Promise 9");
        test("Makes a RESHAPE.", "one cell, and 128", this::reshapes);
        section("Promise 10");
        test(POOLED, "a MAX, or an AVERAGE", this::pools);
        test(POOLED, "-1, 0, 11 and 12", this::poolCodes);
        section("Promise 11");
        test(CLAMPED, "-129, -128, 127 and 128", this::clampEnds);
        test(CLAMPED, "low is high, and one more", this::clampLowAndHigh);
        section("Promise 12");
        test("Makes a RESCALE.", "ordinary, wrong nodes, wrong scales, wrong ratios", this::rescales);
    }

    private void noNodes() {
        TensorForge x = new TensorForge();
        for (Maker maker : Maker.values()) {
            if (maker.takesNode()) {
                Check.due(IAE, () -> maker.make(x, 0));
            }
        }
        Check.due(IAE, () -> x.output(0));
        Check.due(IAE, () -> x.feed(0, 0, 1L));
        for (int what : range(0, 7)) {
            Check.due(IAE, () -> x.about(0, what));
        }
        Check.due(0, () -> x.input(1, 1, 1, 1.0));
        Check.due(0, () -> x.about(0, 0));
    }

    private void nothingElse() {
        TensorForge x = new TensorForge();
        Check.due(ISE, x::compile);
        Check.due(ISE, x::peak);
        Check.due(ISE, () -> x.run(0));
        Check.due(NSEE, () -> x.arena(0));
        Check.due(NSEE, () -> x.result(0));
    }

    private void objectsShareNothing() {
        TensorForge x = new TensorForge();
        fedInput(x, 1, 1, 1, 1.0, 5);
        x.weights(0, bytes(7));
        x.weightScale(2.0);
        Check.same("70", cells(x, x.dense(0, 1, 0, 1.0)));
        TensorForge y = new TensorForge();
        Check.due(IAE, () -> y.about(0, 0));
        Check.due(NSEE, () -> y.arena(0));
        Check.due(NSEE, () -> y.result(0));
        fedInput(y, 1, 1, 1, 1.0, 5);
        Check.same("0", cells(y, y.dense(0, 1, 0, 1.0)));
        y.weights(0, bytes(3));
        Check.same("15", cells(y, 1));
        Check.same("70", cells(x, 1));
    }

    private void weightOffsets() {
        TensorForge x = new TensorForge();
        for (int offset : new int[] {-1, -8, 512, 513, 1024, MIN, MAX, MAX - 7}) {
            Check.due(IAE, () -> x.weights(offset, -1L));
        }
        Check.due(8, () -> x.weights(0, -1L));
        Check.due(1, () -> x.weights(511, -1L));
    }

    /** The WEIGHTS 0 .. 7 (the eight behind them must be 0) and those from 'from' on, at least 8. */
    private static String weightsOf(TensorForge x, int from) {
        int one = fedInput(x, 1, 1, 1, 1.0, 1);
        int zero = x.input(1, 1, 1, 1.0);
        String first = cells(x, x.dense(one, 8, 0, 1.0));
        // Weights meet a cell of 0, and 16 times the biases are made 16 times smaller.
        return first + " | " + cells(x, x.dense(zero, 8, from - 8, 16.0));
    }

    private void weightBytes() {
        TensorForge x = new TensorForge();
        x.weights(0, 0x01ff7f8000fe8155L);
        Check.same("1 -1 127 -128 0 -2 -127 85 | 0 0 0 0 0 0 0 0", weightsOf(x, 8));
        TensorForge y = new TensorForge();
        y.weights(100, Long.MIN_VALUE);
        Check.same("0 0 0 0 0 0 0 0 | -128 0 0 0 0 0 0 0", weightsOf(y, 100));
        TensorForge z = new TensorForge();
        z.weights(100, Long.MAX_VALUE);
        Check.same("0 0 0 0 0 0 0 0 | 127 -1 -1 -1 -1 -1 -1 -1", weightsOf(z, 100));
        TensorForge last = new TensorForge();
        last.weights(100, 1L);
        Check.same("0 0 0 0 0 0 0 0 | 0 0 0 0 0 0 0 1", weightsOf(last, 100));
    }

    private void eightWeights() {
        TensorForge x = new TensorForge();
        x.weights(96, bytes(1, 2, 3, 4, 5, 6, 7, 8));
        x.weights(104, bytes(11, 12, 13, 14, 15, 16, 17, 18));
        x.weights(100, bytes(-1, -2, -3, -4, -5, -6, -7, -8));
        Check.same("0 0 0 0 0 0 0 0 | 1 2 3 4 -1 -2 -3 -4", weightsOf(x, 96));
        Check.same("0 0 0 0 0 0 0 0 | -5 -6 -7 -8 15 16 17 18", weightsOf(x, 104));
        // Zeros are set, too.
        x.weights(96, 0L);
        Check.same("0 0 0 0 0 0 0 0 | 0 0 0 0 0 0 0 0", weightsOf(x, 96));
    }

    private void weightsAtTheEnd() {
        for (int offset : range(503, 511)) {
            TensorForge x = new TensorForge();
            x.weights(offset, bytes(1, 2, 3, 4, 5, 6, 7, 8));
            StringBuilder due = new StringBuilder("0 0 0 0 0 0 0 0 |");
            for (int place : range(504, 511)) {
                due.append(' ').append(place < offset ? 0 : place - offset + 1);
            }
            // Beginning at 503, the last one stays 0.
            Check.same(offset == 503 ? "0 0 0 0 0 0 0 0 | 2 3 4 5 6 7 8 0" : due.toString(), weightsOf(x, 504));
        }
    }

    private void weightsSet() {
        TensorForge x = new TensorForge();
        for (int offset : range(0, 511)) {
            Check.due(offset <= 504 ? 8 : 512 - offset, () -> x.weights(offset, 0L));
        }
    }

    private void weightScales() {
        TensorForge x = inputs(1);
        for (double wrong : WRONG_SCALES) {
            Check.due(IAE, () -> weightScale(x, wrong));
        }
        x.weightScale(1000000.0);
        // 1.0 * 1000000.0 / 1000000.0, and far too large.
        Check.due(1, () -> x.dense(0, 1, 0, 1000000.0));
        Check.due(AE, () -> x.dense(0, 1, 0, 1.0));
        x.weightScale(Double.MIN_VALUE);
        Check.due(2, () -> x.dense(0, 1, 0, Double.MIN_VALUE));
        Check.due(AE, () -> x.dense(0, 1, 0, 1.0));
        Check.due(IAE, () -> weightScale(x, 0.0));
        Check.due(AE, () -> x.dense(0, 1, 0, 1.0));
    }

    private void weightScaleFromThenOn() {
        TensorForge x = new TensorForge();
        fedInput(x, 1, 1, 1, 1.0, 4);
        x.weights(0, bytes(5));
        int before = x.dense(0, 1, 0, 1.0);
        x.weightScale(0.5);
        int half = x.dense(0, 1, 0, 1.0);
        x.weightScale(0.25);
        x.weightScale(3.0);
        int three = x.dense(0, 1, 0, 1.0);
        Check.same("20", cells(x, before));
        Check.same("10", cells(x, half));
        Check.same("60", cells(x, three));
    }

    private void inputIsMade() {
        TensorForge x = new TensorForge();
        Check.due(0, () -> x.input(1, 1, 1, Double.MIN_VALUE));
        Check.due(1, () -> x.input(4, 4, 8, 1000000.0));
        Check.due(0, () -> x.about(1, 0));
        Check.same("1 1 1", shape(x, 0));
        Check.same("4 4 8", shape(x, 1));
        x.feed(1, 127, bytes(-128));
        x.output(1);
        x.compile();
        x.run(128);
        Check.due(-128000000.0, () -> x.result(127));
        Check.due(0.0, () -> x.result(0));
    }

    private void numbersOfNodes() {
        TensorForge x = inputs(1);
        int next = 1;
        for (Maker maker : Maker.values()) {
            int due = next;
            Check.due(IAE, () -> maker.takesNode() ? maker.make(x, due) : maker.make(x, 0, 0.0));
            Check.due(due, () -> maker.make(x, 0));
            next++;
        }
        Check.due(12, () -> x.input(1, 1, 1, 1.0));
        Check.due(AE, () -> x.rescale(0, 0.00001));
        Check.due(13, () -> x.input(1, 1, 1, 1.0));
        Check.due(ISE, () -> x.input(1, 1, 1, 1.0));
        Check.due(0, () -> x.about(13, 0));
    }

    private void convChannels() {
        TensorForge x = inputs(1);
        for (int windows : new int[] {0, 1, 6, 7, 8, 11}) {
            Check.due(IAE, () -> x.windows(0, windows, false, 0, 1.0));
            Check.due(IAE, () -> x.windows(0, windows + 12 * 9, false, 0, 1.0));
        }
        for (int d : range(1, 8)) {
            Check.due(d, () -> x.windows(0, 12 * d, false, 0, 1.0));
            Check.due(1, () -> x.about(d, 0));
            Check.same("2 2 " + d, shape(x, d));
        }
    }

    private void convCodes() {
        for (int code : range(-13, 132)) {
            TensorForge x = new TensorForge();
            x.input(4, 4, 1, 1.0);
            Check.due(code >= 12 && code <= 107 ? "1" : IAE, () -> x.windows(0, code, false, 0, 1.0));
        }
        int[] lengths = {4, 3, 2, 2, 2, 1, 4, 4, 4, 2, 2, 2};
        for (int d : range(1, 8)) {
            for (int windows : range(0, 11)) {
                TensorForge x = new TensorForge();
                x.input(4, 4, 1, 1.0);
                x.windows(0, windows + 12 * d, false, 0, 1.0);
                Check.same(lengths[windows] + " " + lengths[windows] + " " + d, shape(x, 1));
            }
        }
        TensorForge y = inputs(1);
        for (int code : new int[] {MIN, MIN + 12, MAX, MAX - 7, 12 * 256 + 12}) {
            Check.due(IAE, () -> y.windows(0, code, false, 0, 1.0));
        }
    }

    private void depthwiseCodes() {
        for (int code : range(-13, 120)) {
            TensorForge x = new TensorForge();
            x.input(4, 4, 3, 1.0);
            Check.due(code >= 0 && code <= 11 ? "1" : IAE, () -> x.windows(0, code, true, 0, 1.0));
            if (code >= 0 && code <= 11) {
                Check.due(2, () -> x.about(1, 0));
                Check.due(3, () -> x.about(1, 3));
            }
        }
        TensorForge y = inputs(1);
        for (int code : new int[] {MIN, MIN + 8, MAX, MAX - 7}) {
            Check.due(IAE, () -> y.windows(0, code, true, 0, 1.0));
        }
    }

    private void convWeightsThere() {
        for (int c : range(1, 8)) {
            for (int d : range(1, 8)) {
                for (int k : range(1, 3)) {
                    int last = 512 - k * k * c * d - d;
                    TensorForge x = new TensorForge();
                    x.input(4, 4, c, 1.0);
                    int code = k - 1 + 12 * d;
                    Check.due(IAE, () -> x.windows(0, code, false, last + 1, 1.0));
                    Check.due(IAE, () -> x.windows(0, code, false, -1, 1.0));
                    Check.due(last < 0 ? IAE : "1", () -> x.windows(0, code, false, last, 1.0));
                }
            }
        }
    }

    private void convOfAllWeights() {
        TensorForge x = new TensorForge();
        x.input(3, 3, 7, 1.0);
        // 8 times 9 * 7 weights and a bias.
        Check.due(IAE, () -> x.windows(0, 2 + 12 * 8, false, 1, 1.0));
        Check.due(IAE, () -> x.windows(0, 2 + 12 * 8, false, -1, 1.0));
        Check.due(1, () -> x.windows(0, 2 + 12 * 8, false, 0, 1.0));
        x.weights(511, bytes(5));
        Check.same("0 0 0 0 0 0 0 80", cells(x, 1));
        TensorForge y = new TensorForge();
        y.input(3, 3, 8, 1.0);
        // 8 times 9 * 8 and a bias are 584; 7 times are 511.
        Check.due(IAE, () -> y.windows(0, 2 + 12 * 8, false, 0, 1.0));
        Check.due(IAE, () -> y.windows(0, 2 + 12 * 7, false, 2, 1.0));
        Check.due(1, () -> y.windows(0, 2 + 12 * 7, false, 1, 1.0));
    }

    private void depthwiseWeightsThere() {
        for (int c : range(1, 8)) {
            for (int k : range(1, 3)) {
                int last = 512 - k * k * c - c;
                TensorForge x = new TensorForge();
                x.input(4, 4, c, 1.0);
                Check.due(IAE, () -> x.windows(0, k - 1, true, last + 1, 1.0));
                Check.due(IAE, () -> x.windows(0, k - 1, true, -1, 1.0));
                Check.due(1, () -> x.windows(0, k - 1, true, last, 1.0));
                Check.due(2, () -> x.windows(0, k - 1, true, 0, 1.0));
            }
        }
    }

    private void windowOffsetsFarOutside() {
        TensorForge x = inputs(1);
        for (int offset : new int[] {MIN, MIN + 1, MAX, MAX - 1, MAX - 2, MAX - 510, -512, 512, 1 << 30}) {
            Check.due(IAE, () -> x.windows(0, 12, false, offset, 1.0));
            Check.due(IAE, () -> x.windows(0, 107, false, offset, 1.0));
            Check.due(IAE, () -> x.windows(0, 0, true, offset, 1.0));
        }
    }

    private void denseOutputs() {
        TensorForge x = inputs(1);
        for (int d : new int[] {0, -1, 9, 256 + 1, MIN, MAX}) {
            Check.due(IAE, () -> x.dense(0, d, 0, 1.0));
        }
        for (int d : range(1, 8)) {
            Check.due(d, () -> x.dense(0, d, 0, 1.0));
            Check.due(3, () -> x.about(d, 0));
            Check.same("1 1 " + d, shape(x, d));
        }
    }

    private void denseWeightsThere() {
        for (int number : new int[] {1, 2, 7, 8}) {
            for (int d : range(1, 8)) {
                int last = 512 - number * d - d;
                TensorForge x = new TensorForge();
                x.input(1, 1, number, 1.0);
                Check.due(IAE, () -> x.dense(0, d, last + 1, 1.0));
                Check.due(IAE, () -> x.dense(0, d, -1, 1.0));
                Check.due(1, () -> x.dense(0, d, last, 1.0));
            }
        }
        TensorForge y = new TensorForge();
        y.input(4, 4, 8, 1.0);
        // 387 of three outputs of 128 cells.
        Check.due(IAE, () -> y.dense(0, 3, 126, 1.0));
        Check.due(1, () -> y.dense(0, 3, 125, 1.0));
        Check.due(IAE, () -> y.dense(0, 4, 0, 1.0));
    }

    private void denseOfAllWeights() {
        TensorForge x = new TensorForge();
        fedInput(x, 3, 3, 7, 1.0, times(63, 1));
        Check.due(IAE, () -> x.dense(0, 8, 1, 1.0));
        Check.due(1, () -> x.dense(0, 8, 0, 1.0));
        x.weights(0, bytes(3));
        // The last weight of output 7, and its bias.
        x.weights(503, bytes(7));
        x.weights(511, bytes(5));
        Check.same("3 0 0 0 0 0 0 87", cells(x, 1));
        TensorForge y = new TensorForge();
        y.input(4, 4, 4, 1.0);
        Check.due(IAE, () -> y.dense(0, 8, 0, 1.0));
        Check.due(1, () -> y.dense(0, 7, 512 - 455, 1.0));
    }

    private void denseOffsetsFarOutside() {
        TensorForge x = inputs(1);
        for (int offset : new int[] {MIN, MIN + 1, MAX, MAX - 1, MAX - 8, MAX - 510, -512, 512, 1 << 30}) {
            Check.due(IAE, () -> x.dense(0, 1, offset, 1.0));
            Check.due(IAE, () -> x.dense(0, 8, offset, 1.0));
        }
    }

    private void addRatios() {
        TensorForge x = inputs(1);
        x.input(2, 2, 2, 30000.0);
        x.input(2, 2, 2, Math.nextDown(30000.0));
        x.input(2, 2, 2, 0.0000001);
        x.input(2, 2, 2, Math.nextUp(0.0000001));
        for (int bad : new int[] {1, 3}) {
            Check.due(AE, () -> x.add(0, bad, 1.0));
            Check.due(AE, () -> x.add(bad, 0, 1.0));
            Check.due(AE, () -> x.add(bad, bad, 1.0));
        }
        Check.due(5, () -> x.add(0, 2, 1.0));
        Check.due(6, () -> x.add(2, 0, 1.0));
        Check.due(7, () -> x.add(4, 2, 1.0));
        Check.due(4, () -> x.about(7, 0));
        // What counts is the ratio to the own scale.
        Check.due(8, () -> x.add(1, 1, 30000.0));
        Check.due(AE, () -> x.add(3, 1, 1.0));
    }

    private void addOfFullShapes() {
        TensorForge x = new TensorForge();
        x.input(4, 4, 8, 1.0);
        x.input(4, 4, 8, 0.5);
        x.add(0, 1, 1.0);
        x.feed(0, 127, bytes(10));
        x.feed(1, 127, bytes(-5));
        x.feed(1, 0, bytes(4));
        x.output(2);
        x.compile();
        // 2 in the first cell; 10 and -2.5, which is -3, in the last.
        Check.due(9, () -> x.run(ENOUGH));
        Check.due(2.0, () -> x.result(0));
        Check.due(7.0, () -> x.result(127));
    }

    private void concats() {
        TensorForge x = new TensorForge();
        x.input(1, 1, 1, 0.5);
        x.input(4, 4, 1, 0.5);
        x.input(4, 4, 7, 0.5);
        Check.due(3, () -> x.concat(0, 0));
        Check.due(4, () -> x.concat(1, 2));
        Check.due(5, () -> x.concat(2, 1));
        Check.due(5, () -> x.about(4, 0));
        Check.same("1 1 2", shape(x, 3));
        Check.same("4 4 8", shape(x, 4));
        Check.due(IAE, () -> x.concat(2, 2));
        Check.due(IAE, () -> x.concat(4, 1));
        Check.due(IAE, () -> x.concat(0, 1));
        x.feed(1, 15, bytes(5));
        x.feed(2, 105, bytes(1, 2, 3, 4, 5, 6, 7));
        x.output(4);
        x.compile();
        x.run(ENOUGH);
        Check.due(2.5, () -> x.result(120));
        Check.due(0.5, () -> x.result(121));
        Check.due(3.5, () -> x.result(127));
        x.output(5);
        x.compile();
        x.run(ENOUGH);
        Check.due(0.5, () -> x.result(120));
        Check.due(3.5, () -> x.result(126));
        Check.due(2.5, () -> x.result(127));
    }

    private void reshapes() {
        TensorForge x = new TensorForge();
        x.input(1, 1, 1, 1.0);
        Check.due(1, () -> x.reshape(0, 1, 1, 1));
        Check.due(6, () -> x.about(1, 0));
        Check.due(IAE, () -> x.reshape(0, 1, 1, 2));
        Check.due(IAE, () -> x.reshape(0, 1, 1, 0));
        x.input(4, 4, 8, 1.0);
        Check.due(3, () -> x.reshape(2, 4, 4, 8));
        Check.due(IAE, () -> x.reshape(2, 4, 4, 7));
        Check.due(IAE, () -> x.reshape(2, 4, 3, 8));
        Check.due(IAE, () -> x.reshape(2, 2, 8, 8));
        Check.due(IAE, () -> x.reshape(2, 8, 4, 4));
        int in = fedInput(x, 2, 3, 4, 0.5, range(1, 24));
        Check.due(5, () -> x.reshape(in, 4, 2, 3));
        Check.same("4 2 3", shape(x, 5));
        Check.same("1 2 3 4 5 6 7 8 9 10 11 12 13 14 15 16 17 18 19 20 21 22 23 24", cells(x, 5));
        Check.due(12.0, () -> x.result(23));
    }

    private void pools() {
        TensorForge x = new TensorForge();
        fedInput(x, 2, 2, 2, 0.5, 1, -1, 2, -2, 3, -3, 5, -5);
        Check.due(1, () -> x.pool(0, 1, false));
        Check.due(2, () -> x.pool(0, 1, true));
        Check.due(7, () -> x.about(1, 0));
        Check.due(8, () -> x.about(2, 0));
        Check.same("5 -1", cells(x, 1));
        // 11 / 4 is 2.75.
        Check.same("3 -3", cells(x, 2));
        Check.due(1.5, () -> x.result(0));
    }

    private void poolCodes() {
        for (int code : range(-13, 120)) {
            TensorForge x = new TensorForge();
            x.input(4, 4, 8, 1.0);
            boolean inside = code >= 0 && code <= 11;
            Check.due(inside ? "1" : IAE, () -> x.pool(0, code, false));
            Check.due(inside ? "2" : IAE, () -> x.pool(0, code, true));
        }
        TensorForge y = inputs(1);
        for (int code : new int[] {MIN, MAX, MIN + 8, MAX - 7}) {
            Check.due(IAE, () -> y.pool(0, code, false));
        }
    }

    private void clampEnds() {
        TensorForge x = inputs(1);
        int[][] wrong = {{-129, 0}, {-129, 127}, {-129, -129}, {0, 128}, {-128, 128}, {128, 128}, {MIN, 127},
            {-128, MAX}, {MIN, MAX}, {MIN, MIN}, {MAX, MAX}, {-129, 128}, {-200, -150}, {150, 200}};
        for (int[] s : wrong) {
            Check.due(IAE, () -> x.clamp(0, s[0], s[1]));
        }
        Check.due(1, () -> x.clamp(0, -128, 127));
        Check.due(2, () -> x.clamp(0, -128, -128));
        Check.due(3, () -> x.clamp(0, 127, 127));
        Check.due(9, () -> x.about(1, 0));
    }

    private void clampLowAndHigh() {
        for (int high : new int[] {-128, -127, -1, 0, 1, 126, 127}) {
            TensorForge x = inputs(1);
            Check.due(IAE, () -> x.clamp(0, high + 1, high));
            Check.due(IAE, () -> x.clamp(0, MAX, high));
            Check.due(1, () -> x.clamp(0, high, high));
            String each = high + " ";
            Check.same(each.repeat(8).trim(), cells(x, 1));
        }
        TensorForge y = inputs(1);
        Check.due(IAE, () -> y.clamp(0, 127, -128));
        Check.due(1, () -> y.clamp(0, -1, 0));
    }

    private void rescales() {
        TensorForge x = new TensorForge();
        fedInput(x, 1, 2, 2, 3.0, 1, -1, 40, -40);
        for (int node : new int[] {-1, 1, MIN, MAX}) {
            Check.due(IAE, () -> x.rescale(node, 1.0));
        }
        for (double wrong : WRONG_SCALES) {
            Check.due(IAE, () -> x.rescale(0, wrong));
        }
        Check.due(AE, () -> x.rescale(0, 0.0001));
        Check.due(AE, () -> x.rescale(0, Math.nextDown(0.0001)));
        Check.due(1, () -> x.rescale(0, 0.00010001));
        Check.due(2, () -> x.rescale(0, 1000000.0));
        Check.due(3, () -> x.rescale(0, 2.0));
        Check.due(10, () -> x.about(3, 0));
        Check.same("1 2 2", shape(x, 3));
        // 1.5 is 2 and 60 stays.
        Check.same("2 -2 60 -60", cells(x, 3));
        Check.due(120.0, () -> x.result(2));
        Check.same("127 -128 127 -128", cells(x, 1));
        Check.same("0 0 0 0", cells(x, 2));
    }
}
