/** The terms of tensors, weights and nodes. */
final class TensorTerms extends Sentences {
    private static final String SHAPES = "TENSORS have a SHAPE h, w, c (h and w 1 .. 4, c 1 .. 8)";
    private static final String ADDED = "4 ADD: of two of one SHAPE.";
    private static final String JOINED = "5 CONCAT: of two of one h, w and SCALE:";
    private static final String RESHAPED = "6 RESHAPE: the cells in order in another SHAPE with as many.";

    TensorTerms(Document document) {
        super(document);
    }

    @Override
    void all() {
        test(SHAPES, "an input of every shape, and the first ones outside", this::shapesOfInputs);
        test(SHAPES, "far outside, and products that wrap around", this::shapesFarOutside);
        test(SHAPES, "a reshape to as many cells outside", this::shapesOfReshapes);
        test("and h w c CELLS,", "from 1 to 128", this::numbersOfCells);
        test("ints of -128 .. 127,", "the lowest and the highest", this::lowestAndHighestCell);
        test("in the order of h, then w, then c;", "seen by windows that skip rows and columns", this::orderOfCells);
        test("and a SCALE, a double above 0.", "the least one, and 0", this::leastScale);
        test("WEIGHTS: 512 cells of -128 .. 127,", "the first and the last place, lowest and highest", this::weightPlaces);
        test("all 0 at first.", "each of the 512", this::weightsAtFirst);
        test("WSCALE: a double, 1.0 at first.", "not set, and set to 1.0", this::weightScaleAtFirst);
        test("NODES 0, 1, .. in the order they are made,", "one of each kind", this::nodesInOrder);
        test("at most 14;", "the fourteenth is made and the fifteenth refused, of each kind", this::fourteenNodes);
        test("each makes one TENSOR.", "of its own shape and cells", this::oneTensorEach);
        test("KINDS, with their inputs, which are earlier nodes:", "the latest one, its own number, below 0",
                this::inputsAreEarlier);
        kinds();
    }

    private void kinds() {
        test("0 INPUT: cells that are fed, 0 at first.", "not fed, in part, in full", this::inputIsFed);
        test("1 CONV, 2 DEPTHWISE: windows over one input, with WEIGHTS.", "1 and 2", this::windowKinds);
        test("3 DENSE: all cells of one input, with WEIGHTS.", "the first and the last of 128", this::denseCells);
        test(ADDED, "one length differs", this::addOfOtherShapes);
        test(ADDED, "other scales, and twice the same node", this::addOfOneShape);
        test(JOINED, "h, w or the scale differs", this::concatOfOthers);
        test("c is the sum of both, at most 8;", "8 and 9", this::concatOfEight);
        test("the cells of the first come first.", "at each h and w", this::concatOrder);
        test(RESHAPED, "one cell less and one more", this::reshapeOfAsMany);
        test(RESHAPED, "all in order, the full 128 too", this::reshapeOrder);
        test("7 MAX, 8 AVERAGE: windows over one input.", "7 and 8", this::poolKinds);
        test("9 CLAMP: each cell not below low and not above high.", "next to low and high", this::clampEdges);
        test("10 RESCALE: another SCALE.", "another one, and the same one", this::rescaled);
    }

    private void shapesOfInputs() {
        for (int h : range(0, 5)) {
            for (int w : range(0, 5)) {
                for (int c : range(0, 9)) {
                    boolean inside = h >= 1 && h <= 4 && w >= 1 && w <= 4 && c >= 1 && c <= 8;
                    TensorForge x = new TensorForge();
                    Check.due(inside ? "0" : IAE, () -> x.input(h, w, c, 1.0));
                    if (inside) {
                        Check.same(h + " " + w + " " + c, shape(x, 0));
                    }
                }
            }
        }
    }

    private void shapesFarOutside() {
        int[][] shapes = {{MIN, 1, 1}, {1, MIN, 1}, {1, 1, MIN}, {MAX, 1, 1}, {1, MAX, 1}, {1, 1, MAX}, {-1, 1, 1},
            {-2, -4, 1}, {-1, 1, -8}, {2, -2, -2}, {1073741826, 4, 1}, {4, 1073741826, 1}, {1, 1, 256 + 8},
            {65536, 65536, 8}, {4, 4, 1 << 30}};
        for (int[] s : shapes) {
            TensorForge x = inputs(1);
            Check.due(IAE, () -> x.input(s[0], s[1], s[2], 1.0));
            Check.due(IAE, () -> x.reshape(0, s[0], s[1], s[2]));
            Check.due(1, () -> x.input(1, 1, 1, 1.0));
        }
    }

    private void shapesOfReshapes() {
        int allowed = 0;
        for (int h : range(0, 9)) {
            for (int w : range(0, 9)) {
                for (int c : range(0, 9)) {
                    boolean inside = h >= 1 && h <= 4 && w >= 1 && w <= 4 && c >= 1 && c <= 8 && h * w * c == 8;
                    TensorForge x = inputs(1);
                    Check.due(inside ? "1" : IAE, () -> x.reshape(0, h, w, c));
                    allowed += inside ? 1 : 0;
                }
            }
        }
        // c 8: 1 1; c 4: 1 2, 2 1; c 2: 1 4, 2 2, 4 1; c 1: 2 4, 4 2.
        Check.holds("eight shapes have 8 cells", allowed == 8);
        TensorForge y = new TensorForge();
        y.input(4, 4, 1, 1.0);
        for (int[] s : new int[][] {{1, 1, 16}, {1, 16, 1}, {16, 1, 1}, {8, 2, 1}, {2, 8, 1}}) {
            Check.due(IAE, () -> y.reshape(0, s[0], s[1], s[2]));
        }
    }

    private void numbersOfCells() {
        for (int h : range(1, 4)) {
            for (int w : range(1, 4)) {
                for (int c : range(1, 8)) {
                    TensorForge x = new TensorForge();
                    x.input(h, w, c, 1.0);
                    int number = h * w * c;
                    Check.due(number, () -> x.output(0));
                    x.compile();
                    Check.due(number, x::peak);
                    x.run(number);
                    Check.due(0.0, () -> x.result(number - 1));
                    Check.due(NSEE, () -> x.result(number));
                }
            }
        }
    }

    private void lowestAndHighestCell() {
        TensorForge x = new TensorForge();
        x.input(1, 1, 8, 1.0);
        x.feed(0, 0, 0x807fff0001fe8180L);
        Check.same("-128 127 -1 0 1 -2 -127 -128", cells(x, 0));
    }

    private void orderOfCells() {
        TensorForge x = new TensorForge();
        int wide = fedInput(x, 2, 3, 2, 1.0, 0, 1, 2, 3, 4, 5, 6, 7, 8, 9, 10, 11);
        // Only the first of each two rows and columns: row 0, columns 0 and 2.
        Check.same("0 1 4 5", cells(x, x.pool(wide, 3, false)));
        int tall = fedInput(x, 3, 2, 2, 1.0, 0, 1, 2, 3, 4, 5, 6, 7, 8, 9, 10, 11);
        // Rows 0 and 2, column 0.
        Check.same("0 1 8 9", cells(x, x.pool(tall, 3, false)));
    }

    private void leastScale() {
        TensorForge x = new TensorForge();
        Check.due(IAE, () -> x.input(1, 1, 1, 0.0));
        Check.due(IAE, () -> x.input(1, 1, 1, -0.0));
        Check.due(IAE, () -> x.input(1, 1, 1, -Double.MIN_VALUE));
        Check.due(0, () -> x.input(1, 1, 1, Double.MIN_VALUE));
        x.feed(0, 0, bytes(3));
        Check.same("3", cells(x, 0));
        Check.due(3 * Double.MIN_VALUE, () -> x.result(0));
    }

    private void weightPlaces() {
        TensorForge x = new TensorForge();
        x.weights(0, bytes(-128, 127));
        x.weights(511, bytes(-128));
        x.weights(510, bytes(127, -128));
        int one = fedInput(x, 1, 1, 1, 1.0, 1);
        Check.same("-128 127", cells(x, x.dense(one, 2, 0, 1.0)));
        int zero = x.input(1, 1, 1, 1.0);
        // Two weights and two biases at the very end; 16 times a bias by a ratio of 1 / 16.
        Check.same("127 -128", cells(x, x.dense(zero, 2, 508, 16.0)));
    }

    private void weightsAtFirst() {
        TensorForge x = new TensorForge();
        int all = fedInput(x, 4, 4, 8, 1.0, times(128, 1));
        // 3 * 128 weights and 3 biases, from the first place on and up to the last one, made 10000 times larger.
        Check.same("0 0 0", cells(x, x.dense(all, 3, 0, 0.0001)));
        Check.same("0 0 0", cells(x, x.dense(all, 3, 125, 0.0001)));
        x.weights(511, bytes(1));
        Check.same("0 0 127", cells(x, x.dense(all, 3, 125, 0.0001)));
    }

    private void weightScaleAtFirst() {
        TensorForge x = new TensorForge();
        x.weights(0, bytes(5));
        int one = fedInput(x, 1, 1, 1, 1.0, 1);
        int before = x.dense(one, 1, 0, 1.0);
        Check.same("5", cells(x, before));
        x.weightScale(1.0);
        int after = x.dense(one, 1, 0, 1.0);
        x.output(after);
        x.compile();
        Check.due(before, () -> x.about(after, 4));
    }

    private void nodesInOrder() {
        TensorForge x = inputs(1);
        for (Maker maker : Maker.values()) {
            int due = 1 + maker.kind();
            Check.due(due, () -> maker.make(x, 0));
            Check.due(maker.kind(), () -> x.about(due, 0));
        }
        TensorForge other = inputs(1);
        Check.due(1, () -> Maker.CLAMP.make(other, 0));
    }

    private void fourteenNodes() {
        for (Maker maker : Maker.values()) {
            TensorForge x = inputs(13);
            Check.due(13, () -> maker.make(x, 0));
            Check.due(maker.kind(), () -> x.about(13, 0));
            Check.due(ISE, () -> maker.make(x, 0));
            Check.due(IAE, () -> x.about(14, 0));
        }
    }

    private void oneTensorEach() {
        TensorForge x = inputs(1);
        x.feed(0, 0, bytes(1, 2, 3, 4, 5, 6, 7, 8));
        String[] shapes = {"2 2 2", "2 2 1", "2 2 2", "1 1 1", "2 2 2", "2 2 4", "1 4 2", "2 2 2", "2 2 2", "2 2 2",
            "2 2 2"};
        int[] numbers = {8, 4, 8, 1, 8, 16, 8, 8, 8, 8, 8};
        for (Maker maker : Maker.values()) {
            int node = maker.make(x, 0, 2.0);
            Check.same(shapes[maker.kind()], shape(x, node));
            Check.due(numbers[maker.kind()], () -> x.output(node));
        }
        Check.same("2 2 2", shape(x, 0));
        Check.same("1 2 3 4 5 6 7 8", cells(x, 0));
    }

    private void inputsAreEarlier() {
        for (Maker maker : Maker.values()) {
            if (maker.takesNode()) {
                TensorForge x = inputs(3);
                for (int node : new int[] {3, 4, 13, 14, -1, MIN, MAX}) {
                    Check.due(IAE, () -> maker.make(x, node));
                }
                Check.due(3, () -> maker.make(x, 2));
            }
        }
        TensorForge y = inputs(3);
        for (int node : new int[] {3, 14, -1, MIN, MAX}) {
            Check.due(IAE, () -> y.add(0, node, 1.0));
            Check.due(IAE, () -> y.add(node, 0, 1.0));
            Check.due(IAE, () -> y.concat(0, node));
            Check.due(IAE, () -> y.concat(node, 0));
        }
        Check.due(3, () -> y.add(0, 2, 1.0));
        Check.due(4, () -> y.concat(2, 0));
    }

    private void inputIsFed() {
        TensorForge x = new TensorForge();
        x.input(1, 3, 3, 1.0);
        Check.due(0, () -> x.about(0, 0));
        Check.same("0 0 0 0 0 0 0 0 0", cells(x, 0));
        x.feed(0, 8, bytes(9, 99));
        Check.same("0 0 0 0 0 0 0 0 9", cells(x, 0));
        x.feed(0, 0, bytes(1, 2, 3, 4, 5, 6, 7, 8));
        Check.same("1 2 3 4 5 6 7 8 9", cells(x, 0));
    }

    private void windowKinds() {
        TensorForge x = inputs(1);
        x.feed(0, 0, bytes(1, 2, 3, 4, 5, 6, 7, 8));
        x.windows(0, 12, false, 0, 1.0);
        x.windows(0, 0, true, 0, 1.0);
        Check.due(1, () -> x.about(1, 0));
        Check.due(2, () -> x.about(2, 0));
        x.weights(0, bytes(1, 10));
        Check.same("21 43 65 87", cells(x, 1));
        Check.same("1 20 3 40 5 60 7 80", cells(x, 2));
    }

    private void denseCells() {
        TensorForge x = new TensorForge();
        x.input(4, 4, 8, 1.0);
        x.dense(0, 1, 0, 1.0);
        Check.due(3, () -> x.about(1, 0));
        x.weights(0, bytes(2));
        x.weights(127, bytes(3));
        x.feed(0, 0, bytes(10));
        Check.same("20", cells(x, 1));
        x.feed(0, 127, bytes(7));
        Check.same("41", cells(x, 1));
    }

    private void addOfOtherShapes() {
        int[][] shapes = {{1, 2, 2}, {3, 2, 2}, {2, 1, 2}, {2, 3, 2}, {2, 2, 1}, {2, 2, 3}, {1, 4, 2}, {4, 1, 2},
            {1, 1, 8}, {2, 4, 1}};
        for (int[] s : shapes) {
            TensorForge x = inputs(1);
            x.input(s[0], s[1], s[2], 1.0);
            Check.due(IAE, () -> x.add(0, 1, 1.0));
            Check.due(IAE, () -> x.add(1, 0, 1.0));
            Check.due(2, () -> x.add(1, 1, 1.0));
        }
    }

    private void addOfOneShape() {
        TensorForge x = new TensorForge();
        fedInput(x, 1, 1, 2, 1.0, 5, -7);
        fedInput(x, 1, 1, 2, 2.0, 1, 2);
        Check.due(2, () -> x.add(0, 0, 1.0));
        Check.due(3, () -> x.add(0, 1, 1.0));
        Check.due(4, () -> x.about(2, 0));
        Check.same("10 -14", cells(x, 2));
        Check.same("7 -3", cells(x, 3));
        int flat = x.input(1, 2, 3, 1.0);
        int tall = x.input(3, 1, 2, 1.0);
        Check.same("1 2 3", shape(x, x.add(flat, flat, 1.0)));
        Check.same("3 1 2", shape(x, x.add(tall, tall, 1.0)));
    }

    private void concatOfOthers() {
        TensorForge x = new TensorForge();
        x.input(2, 3, 1, 0.5);
        x.input(1, 3, 1, 0.5);
        x.input(3, 3, 1, 0.5);
        x.input(2, 2, 1, 0.5);
        x.input(2, 4, 1, 0.5);
        x.input(3, 2, 1, 0.5);
        x.input(2, 3, 1, Math.nextUp(0.5));
        x.input(2, 3, 1, Math.nextDown(0.5));
        for (int node : range(1, 7)) {
            Check.due(IAE, () -> x.concat(0, node));
            Check.due(IAE, () -> x.concat(node, 0));
        }
        Check.due(8, () -> x.input(2, 3, 2, 0.5));
        Check.due(9, () -> x.concat(0, 8));
        Check.due(5, () -> x.about(9, 0));
        Check.same("2 3 3", shape(x, 9));
    }

    private void concatOfEight() {
        for (int one : range(1, 8)) {
            for (int other : range(1, 8)) {
                TensorForge x = new TensorForge();
                x.input(1, 1, one, 1.0);
                x.input(1, 1, other, 1.0);
                Check.due(one + other <= 8 ? "2" : IAE, () -> x.concat(0, 1));
                if (one + other <= 8) {
                    Check.due(one + other, () -> x.about(2, 3));
                }
            }
        }
    }

    private void concatOrder() {
        TensorForge x = new TensorForge();
        int one = fedInput(x, 2, 2, 1, 1.0, 1, 2, 3, 4);
        int other = fedInput(x, 2, 2, 2, 1.0, 11, 12, 21, 22, 31, 32, 41, 42);
        Check.same("1 11 12 2 21 22 3 31 32 4 41 42", cells(x, x.concat(one, other)));
        Check.same("11 12 1 21 22 2 31 32 3 41 42 4", cells(x, x.concat(other, one)));
        Check.same("1 1 2 2 3 3 4 4", cells(x, x.concat(one, one)));
        int flat = fedInput(x, 1, 3, 1, 1.0, 1, 2, 3);
        Check.same("1 1 2 2 3 3", cells(x, x.concat(flat, flat)));
        int tall = fedInput(x, 3, 1, 1, 1.0, 1, 2, 3);
        Check.same("1 1 2 2 3 3", cells(x, x.concat(tall, tall)));
        int longer = fedInput(x, 3, 2, 1, 1.0, 1, 2, 3, 4, 5, 6);
        Check.same("1 1 2 2 3 3 4 4 5 5 6 6", cells(x, x.concat(longer, longer)));
    }

    private void reshapeOfAsMany() {
        TensorForge x = new TensorForge();
        x.input(2, 2, 3, 1.0);
        Check.due(IAE, () -> x.reshape(0, 1, 3, 4 + 1));
        Check.due(IAE, () -> x.reshape(0, 1, 4, 2));
        Check.due(IAE, () -> x.reshape(0, 4, 4, 1));
        Check.due(1, () -> x.reshape(0, 1, 3, 4));
        TensorForge y = new TensorForge();
        y.input(1, 1, 7, 1.0);
        Check.due(IAE, () -> y.reshape(0, 1, 1, 6));
        Check.due(IAE, () -> y.reshape(0, 1, 1, 8));
        Check.due(1, () -> y.reshape(0, 1, 1, 7));
    }

    private void reshapeOrder() {
        TensorForge x = new TensorForge();
        int small = fedInput(x, 1, 3, 2, 1.0, 1, 2, 3, 4, 5, 6);
        Check.same("1 2 3 4 5 6", cells(x, x.reshape(small, 3, 2, 1)));
        Check.due(6, () -> x.about(1, 0));
        TensorForge y = new TensorForge();
        fedInput(y, 4, 4, 8, 1.0, range(0, 127));
        y.clamp(0, 1, 127);
        Check.due(2, () -> y.reshape(1, 4, 4, 8));
        String all = cells(y, 2);
        Check.holds("128 cells in order", all.startsWith("1 1 2 3 ") && all.endsWith(" 125 126 127"));
    }

    private void poolKinds() {
        TensorForge x = new TensorForge();
        fedInput(x, 1, 2, 1, 1.0, 4, -9);
        x.pool(0, 7, false);
        x.pool(0, 7, true);
        Check.due(7, () -> x.about(1, 0));
        Check.due(8, () -> x.about(2, 0));
        Check.same("4 -9", cells(x, 1));
        Check.same("-3 -9", cells(x, 2));
    }

    private void clampEdges() {
        TensorForge x = new TensorForge();
        int in = fedInput(x, 1, 1, 8, 1.0, -128, -4, -3, -2, 4, 5, 6, 127);
        Check.same("-3 -3 -3 -2 4 5 5 5", cells(x, x.clamp(in, -3, 5)));
        Check.due(9, () -> x.about(1, 0));
        Check.same("-127 -4 -3 -2 4 5 6 127", cells(x, x.clamp(in, -127, 127)));
        Check.same("-128 -4 -3 -2 4 5 6 126", cells(x, x.clamp(in, -128, 126)));
        Check.same("-2 -2 -2 -2 -2 -2 -2 -2", cells(x, x.clamp(in, -2, -2)));
    }

    private void rescaled() {
        TensorForge x = new TensorForge();
        int in = fedInput(x, 1, 1, 2, 1.0, 6, -6);
        int other = x.rescale(in, 2.0);
        int same = x.rescale(in, 1.0);
        Check.due(10, () -> x.about(other, 0));
        Check.due(10, () -> x.about(same, 0));
        Check.same("3 -3", cells(x, other));
        Check.due(-6.0, () -> x.result(1));
        Check.same("6 -6", cells(x, same));
        Check.due(-6.0, () -> x.result(1));
    }
}
