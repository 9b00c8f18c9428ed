/** The terms of windows and of the kinds that slide them, and of the dense kind. */
final class WindowTerms extends Sentences {
    private static final String SAME_PLACES =
            "SAME: for h (and w likewise) the output has (h + step - 1) / step places,";
    private static final String OTHER_PLACES = "not SAME: (h - k) / step + 1 places, p is 0,";
    private static final String COVERED = "The window of place y covers the rows"
            + " y step - p .. y step - p + k - 1 as far as they are there, likewise columns.";
    private static final String CONV = "CONV with d output channels: output (y, x, o) is R of the sum of"
            + " input (row, column, i) times WEIGHT of o, ky, kx, i over the window, plus 16 times BIAS o.";
    private static final String CONV_WEIGHTS = "The WEIGHTS of a node begin at its OFFSET: for o, then ky, then kx"
            + " (0 .. k - 1 each, those outside the input too), then i; behind them the d BIASES.";
    private static final String DEPTHWISE = "DEPTHWISE: output (y, x, i) is R of the sum of input (row, column, i)"
            + " times WEIGHT of i, ky, kx, plus 16 times BIAS i; WEIGHTS for i, then ky, then kx, then the c BIASES.";
    private static final String DENSE = "DENSE: SHAPE 1, 1, d: output o is R of the sum of input cell j"
            + " times WEIGHT of o, j, plus 16 times BIAS o; WEIGHTS for o, then j, then the d BIASES.";
    private static final String MAX_CELL = "MAX: the greatest cell of the window of the same channel.";
    private static final String AVERAGE = "AVERAGE: the sum of the cells of the window that are there,"
            + " divided by their number, HALVES AWAY.";

    /** For each code, the rows of each window along 1, 2, 3 and 4 rows, worked out by hand; none: it does not fit. */
    private static final String[][] ROWS = {
        {"0", "0 1", "0 1 2", "0 1 2 3"},
        {"", "01", "01 12", "01 12 23"},
        {"", "", "012", "012 123"},
        {"0", "0", "0 2", "0 2"},
        {"", "01", "01", "01 23"},
        {"", "", "012", "012"},
        {"0", "0 1", "0 1 2", "0 1 2 3"},
        {"0", "01 1", "01 12 2", "01 12 23 3"},
        {"0", "01 01", "01 012 12", "01 012 123 23"},
        {"0", "0", "0 2", "0 2"},
        {"0", "01", "01 2", "01 23"},
        {"0", "01", "01 12", "012 23"}};

    /** The same windows, with the ky of each row in the place of the row. */
    private static final String[][] WEIGHT_ROWS = {
        {"0", "0 0", "0 0 0", "0 0 0 0"},
        {"", "01", "01 01", "01 01 01"},
        {"", "", "012", "012 012"},
        {"0", "0", "0 0", "0 0"},
        {"", "01", "01", "01 01"},
        {"", "", "012", "012"},
        {"0", "0 0", "0 0 0", "0 0 0 0"},
        {"0", "01 0", "01 01 0", "01 01 01 0"},
        {"1", "12 01", "12 012 01", "12 012 012 01"},
        {"0", "0", "0 0", "0 0"},
        {"0", "01", "01 0", "01 01"},
        {"1", "01", "12 01", "012 01"}};

    WindowTerms(Document document) {
        super(document);
    }

    @Override
    void all() {
        test("WINDOWS have a code 0 .. 11:", "-1, 0, 11 and 12", this::codes);
        test("k = 1 + code % 3, step = 1 + code / 3 % 2, SAME if code is 6 or more.", "each code over 4 rows",
                () -> coveredRows(range(0, 11), 4));
        for (int length : range(1, 4)) {
            test(SAME_PLACES, "along " + length, () -> places(range(6, 11), length));
            test("and before the first one lie p = ((places - 1) step + k - h) / 2 cells,",
                    "the weights that meet cells along " + length, () -> metWeights(range(6, 11), length));
            test(OTHER_PLACES, "along " + length, () -> places(range(0, 5), length));
            test(OTHER_PLACES, "the weights that meet cells along " + length, () -> metWeights(range(0, 5), length));
            test(COVERED, "along " + length, () -> coveredRows(range(0, 11), length));
        }
        test("but not below 0 (if the difference is below 0, p is 0);", "the difference is -1", this::differenceBelow0);
        test("and h must be at least k.", "as long as k and one less, for h and for w", this::atLeastK);
        kinds();
    }

    private void kinds() {
        test(CONV, "each weight alone meets its cell", this::convWeightAlone);
        test(CONV, "the lowest and the highest bias, the fullest sum", this::convBias);
        test(CONV, "h and w differ", this::convNotSquare);
        test(CONV_WEIGHTS, "the first and the last offset", this::convOffsets);
        test(CONV_WEIGHTS, "a window larger than the input", this::convOutside);
        test(DEPTHWISE, "each weight alone meets its cell", this::depthwiseWeightAlone);
        test(DEPTHWISE, "the lowest and the highest bias", this::depthwiseBias);
        test(DEPTHWISE, "a window larger than the input", this::depthwiseOutside);
        test(DENSE, "each weight alone meets its cell", this::denseWeightAlone);
        test(DENSE, "the lowest and the highest bias, the fullest sum", this::denseBias);
        test(MAX_CELL, "all cells are the lowest", this::maxOfLowest);
        test(MAX_CELL, "cells outside are no zeros, other channels are left out", this::maxOfThere);
        test(AVERAGE, "halves of both signs, and what lies next to them", this::averageHalves);
        test(AVERAGE, "windows of 1, 2, 3, 4, 6 and 9 cells that are there", this::averageOfThere);
        test(AVERAGE, "all cells are the lowest or the highest", this::averageOfLowest);
    }

    private void codes() {
        TensorForge x = inputs(1);
        for (int code : new int[] {-1, 12, 13, MIN, MAX}) {
            Check.due(IAE, () -> x.windows(0, code, true, 0, 1.0));
            Check.due(IAE, () -> x.pool(0, code, false));
            Check.due(IAE, () -> x.pool(0, code, true));
        }
        for (int code : new int[] {-1, 0, 11, 108, MIN, MAX}) {
            Check.due(IAE, () -> x.windows(0, code, false, 0, 1.0));
        }
        Check.due(1, () -> x.windows(0, 0, true, 0, 1.0));
        Check.due(2, () -> x.windows(0, 11, true, 0, 1.0));
        Check.due(3, () -> x.pool(0, 0, false));
        Check.due(4, () -> x.pool(0, 11, false));
        Check.due(5, () -> x.pool(0, 0, true));
        Check.due(6, () -> x.pool(0, 11, true));
        Check.due(7, () -> x.windows(0, 12, false, 0, 1.0));
        Check.due(8, () -> x.windows(0, 23, false, 0, 1.0));
        Check.due(9, () -> x.windows(0, 96, false, 0, 1.0));
        Check.due(10, () -> x.windows(0, 107, false, 0, 1.0));
    }

    private static int placesOf(String windows) {
        return windows.isEmpty() ? 0 : windows.split(" ").length;
    }

    private void places(int[] codes, int length) {
        for (int code : codes) {
            int due = placesOf(ROWS[code][length - 1]);
            int full = placesOf(ROWS[code][3]);
            for (Sliding sliding : Sliding.values()) {
                TensorForge x = new TensorForge();
                x.input(length, 4, 2, 1.0);
                x.input(4, length, 2, 1.0);
                if (due == 0) {
                    Check.due(IAE, () -> sliding.make(x, 0, code));
                    Check.due(IAE, () -> sliding.make(x, 1, code));
                } else {
                    Check.same(due + " " + full + " 2", shape(x, sliding.make(x, 0, code)));
                    Check.same(full + " " + due + " 2", shape(x, sliding.make(x, 1, code)));
                }
            }
        }
    }

    /** Channel r is high in row (or column) r alone, so that the greatest cells tell what each window covers. */
    private void coveredRows(int[] codes, int length) {
        for (int code : codes) {
            String windows = ROWS[code][length - 1];
            if (!windows.isEmpty()) {
                TensorForge x = new TensorForge();
                int tall = fedInput(x, length, 4, 4, 1.0, oneChannelPerRow(length, 4, true));
                int wide = fedInput(x, 4, length, 4, 1.0, oneChannelPerRow(4, length, false));
                int others = placesOf(ROWS[code][3]);
                Check.same(coverage(windows, others, true), cells(x, x.pool(tall, code, false)));
                Check.same(coverage(windows, others, false), cells(x, x.pool(wide, code, false)));
            }
        }
    }

    private static int[] oneChannelPerRow(int h, int w, boolean ofRows) {
        int[] all = times(h * w * 4, -128);
        for (int row = 0; row < h; row++) {
            for (int column = 0; column < w; column++) {
                all[(row * w + column) * 4 + (ofRows ? row : column)] = 127;
            }
        }
        return all;
    }

    private static String coverage(String windows, int others, boolean ofRows) {
        String[] each = windows.split(" ");
        StringBuilder text = new StringBuilder();
        for (int place = 0; place < each.length * others; place++) {
            String window = each[ofRows ? place / others : place % each.length];
            for (int row = 0; row < 4; row++) {
                text.append(window.indexOf('0' + row) >= 0 ? "127 " : "-128 ");
            }
        }
        return text.toString().trim();
    }

    /** Cells of 1 in one column: weights 1, 2 and 4 by ky tell which of them meet a cell. */
    private void metWeights(int[] codes, int length) {
        for (int code : codes) {
            String windows = WEIGHT_ROWS[code][length - 1];
            int k = 1 + code % 3;
            if (!windows.isEmpty() && (code >= 6 || k == 1)) {
                metWeightsOfLine(code, length, 1, k == 3 ? 1 : 0, sums(windows));
            } else if (!windows.isEmpty()) {
                metWeightsOfLine(code, length, k, 0, sums(windows));
            }
        }
    }

    private static String sums(String windows) {
        StringBuilder text = new StringBuilder();
        for (String window : windows.split(" ")) {
            int sum = 0;
            for (char ky : window.toCharArray()) {
                sum += 1 << (ky - '0');
            }
            text.append(sum).append(' ');
        }
        return text.toString().trim();
    }

    private void metWeightsOfLine(int code, int length, int width, int kx, String due) {
        int k = 1 + code % 3;
        int[] down = new int[k * k + 1];
        int[] across = new int[k * k + 1];
        for (int ky = 0; ky < k; ky++) {
            down[ky * k + kx] = 1 << ky;
            across[kx * k + ky] = 1 << ky;
        }
        TensorForge x = new TensorForge();
        int tall = fedInput(x, length, width, 1, 1.0, times(length * width, 1));
        int wide = fedInput(x, width, length, 1, 1.0, times(length * width, 1));
        setWeights(x, 0, down);
        setWeights(x, 100, across);
        Check.same(due, cells(x, x.windows(tall, code, true, 0, 1.0)));
        Check.same(due, cells(x, x.windows(tall, code + 12, false, 0, 1.0)));
        Check.same(due, cells(x, x.windows(wide, code, true, 100, 1.0)));
        Check.same(due, cells(x, x.windows(wide, code + 12, false, 100, 1.0)));
    }

    private void differenceBelow0() {
        // SAME, k 1, step 2 over 2 and 4: (1 - 1) 2 + 1 - 2 and (2 - 1) 2 + 1 - 4.
        TensorForge x = new TensorForge();
        int two = fedInput(x, 2, 2, 1, 1.0, 1, 2, 3, 4);
        int four = fedInput(x, 4, 4, 1, 1.0, range(1, 16));
        x.weights(0, bytes(1));
        Check.same("1", cells(x, x.pool(two, 9, false)));
        Check.same("1", cells(x, x.pool(two, 9, true)));
        Check.same("1", cells(x, x.windows(two, 9, true, 0, 1.0)));
        Check.same("1 3 9 11", cells(x, x.pool(four, 9, false)));
        Check.same("1 3 9 11", cells(x, x.pool(four, 9, true)));
        Check.same("1 3 9 11", cells(x, x.windows(four, 9 + 12, false, 0, 1.0)));
    }

    private void atLeastK() {
        for (Sliding sliding : Sliding.values()) {
            for (int code : range(0, 5)) {
                int k = 1 + code % 3;
                TensorForge x = new TensorForge();
                x.input(k, k, 2, 1.0);
                Check.same("1 1 2", shape(x, sliding.make(x, 0, code)));
                if (k > 1) {
                    x.input(k - 1, k, 2, 1.0);
                    x.input(k, k - 1, 2, 1.0);
                    Check.due(IAE, () -> sliding.make(x, 2, code));
                    Check.due(IAE, () -> sliding.make(x, 3, code));
                    // SAME windows fit.
                    Check.due(4, () -> sliding.make(x, 2, code + 6));
                    Check.due(5, () -> sliding.make(x, 3, code + 6));
                }
            }
        }
    }

    private void convWeightAlone() {
        TensorForge x = new TensorForge();
        fedInput(x, 2, 2, 2, 1.0, 1, 2, 3, 4, 5, 6, 7, 8);
        // k 2, d 2: weights 0 .. 7 are those of output 0, 8 .. 15 those of output 1, in the order of the cells.
        x.windows(0, 1 + 24, false, 0, 1.0);
        for (int weight : range(0, 15)) {
            setWeights(x, 0, times(24, 0));
            x.weights(weight, bytes(10));
            int cell = 10 * (1 + weight % 8);
            Check.same(weight < 8 ? cell + " 0" : "0 " + cell, cells(x, 1));
        }
    }

    private void convBias() {
        TensorForge x = new TensorForge();
        fedInput(x, 1, 1, 2, 1.0, 1, 1);
        // No weights, only the biases -128 and 127 behind four weights; 16 times them by a ratio of 1 / 16.
        setWeights(x, 0, 0, 0, 0, 0, -128, 127);
        Check.same("-128 127", cells(x, x.windows(0, 24, false, 0, 16.0)));
        // A bias is 16 times itself: 1 + 16 and 1 - 16.
        setWeights(x, 0, 1, 0, 1, 0, 1, -1);
        Check.same("17 -15", cells(x, x.windows(0, 24, false, 0, 1.0)));
        TensorForge y = new TensorForge();
        fedInput(y, 3, 3, 6, 1.0, times(54, -128));
        setWeights(y, 0, times(55, -128));
        // 54 * 16384 - 2048 = 882688, by 8192: 107.75.
        Check.same("108", cells(y, y.windows(0, 2 + 12, false, 0, 8192.0)));
    }

    private void convNotSquare() {
        TensorForge x = new TensorForge();
        fedInput(x, 2, 3, 1, 1.0, 1, 2, 3, 4, 5, 6);
        setWeights(x, 0, 1, 10, 0, 0, 0);
        // k 2: each cell and ten times its right neighbour.
        Check.same("21 32", cells(x, x.windows(0, 1 + 12, false, 0, 1.0)));
        setWeights(x, 0, 1, 0, 10, 0, 0);
        // Each cell and ten times the one below it.
        Check.same("41 52", cells(x, x.windows(0, 1 + 12, false, 0, 1.0)));
    }

    private void convOffsets() {
        TensorForge x = new TensorForge();
        fedInput(x, 1, 1, 1, 1.0, 3);
        x.weights(0, bytes(7, 1));
        x.weights(510, bytes(5, 2));
        Check.same("37", cells(x, x.windows(0, 12, false, 0, 1.0)));
        Check.same("47", cells(x, x.windows(0, 12, false, 510, 1.0)));
        Check.due(IAE, () -> x.windows(0, 12, false, 511, 1.0));
        Check.due(IAE, () -> x.windows(0, 12, false, -1, 1.0));
        Check.due(IAE, () -> x.windows(0, 12, false, 512, 1.0));
        Check.due(IAE, () -> x.windows(0, 12, false, MAX, 1.0));
        Check.due(IAE, () -> x.windows(0, 12, false, MIN, 1.0));
    }

    private void convOutside() {
        TensorForge x = new TensorForge();
        fedInput(x, 1, 1, 1, 1.0, 3);
        // k 3 over one cell: only the middle one of nine weights meets it; the second output begins behind nine.
        setWeights(x, 0, 9, 9, 9, 9, 2, 9, 9, 9, 9, 8, 8, 8, 8, 4, 8, 8, 8, 8, 1, -1);
        Check.same("22 -4", cells(x, x.windows(0, 8 + 24, false, 0, 1.0)));
        // Those outside must be there too: 9 and a bias.
        Check.due(IAE, () -> x.windows(0, 8 + 12, false, 503, 1.0));
        Check.due(2, () -> x.windows(0, 8 + 12, false, 502, 1.0));
    }

    private void depthwiseWeightAlone() {
        TensorForge x = new TensorForge();
        fedInput(x, 2, 2, 2, 1.0, 1, 2, 3, 4, 5, 6, 7, 8);
        x.windows(0, 1, true, 0, 1.0);
        // Weights 0 .. 3 meet the cells of channel 0 (1, 3, 5, 7), 4 .. 7 those of channel 1.
        for (int weight : range(0, 7)) {
            setWeights(x, 0, times(16, 0));
            x.weights(weight, bytes(10));
            int cell = 10 * (1 + 2 * (weight % 4) + weight / 4);
            Check.same(weight < 4 ? cell + " 0" : "0 " + cell, cells(x, 1));
        }
    }

    private void depthwiseBias() {
        TensorForge x = new TensorForge();
        fedInput(x, 1, 1, 2, 1.0, 0, 0);
        setWeights(x, 508, 0, 0, -128, 127);
        Check.same("-128 127", cells(x, x.windows(0, 0, true, 508, 16.0)));
        Check.due(IAE, () -> x.windows(0, 0, true, 509, 16.0));
    }

    private void depthwiseOutside() {
        TensorForge x = new TensorForge();
        fedInput(x, 1, 1, 2, 1.0, 3, 5);
        setWeights(x, 0, 9, 9, 9, 9, 2, 9, 9, 9, 9, 8, 8, 8, 8, 4, 8, 8, 8, 8, 1, -1);
        Check.same("22 4", cells(x, x.windows(0, 8, true, 0, 1.0)));
        // 18 and two biases.
        Check.due(IAE, () -> x.windows(0, 8, true, 493, 1.0));
        Check.due(2, () -> x.windows(0, 8, true, 492, 1.0));
    }

    private void denseWeightAlone() {
        TensorForge x = new TensorForge();
        fedInput(x, 2, 1, 2, 1.0, 1, 2, 3, 4);
        x.dense(0, 3, 0, 1.0);
        Check.same("1 1 3", shape(x, 1));
        for (int weight : range(0, 11)) {
            setWeights(x, 0, times(16, 0));
            x.weights(weight, bytes(10));
            int cell = 10 * (1 + weight % 4);
            String[] due = {"0", "0", "0"};
            due[weight / 4] = String.valueOf(cell);
            Check.same(String.join(" ", due), cells(x, 1));
        }
    }

    private void denseBias() {
        TensorForge x = new TensorForge();
        x.input(1, 1, 1, 1.0);
        setWeights(x, 0, 9, 9, -128, 127);
        Check.same("-128 127", cells(x, x.dense(0, 2, 0, 16.0)));
        TensorForge y = new TensorForge();
        fedInput(y, 4, 4, 8, 1.0, times(128, -128));
        setWeights(y, 0, times(128, -128));
        setWeights(y, 128, times(128, 127));
        setWeights(y, 256, 127, -128);
        // 128 * 16384 + 2032 = 2099184 and -128 * 16256 - 2048 = -2082816, by 32768: 64.06 and -63.56.
        Check.same("64 -64", cells(y, y.dense(0, 2, 0, 32768.0)));
        // By 20000: 104.96 and -104.14.
        Check.same("105 -104", cells(y, y.dense(0, 2, 0, 20000.0)));
    }

    private void maxOfLowest() {
        TensorForge x = new TensorForge();
        fedInput(x, 2, 2, 1, 1.0, times(4, -128));
        Check.same("-128", cells(x, x.pool(0, 1, false)));
        Check.same("-128 -128 -128 -128", cells(x, x.pool(0, 8, false)));
        x.feed(0, 3, bytes(-127));
        Check.same("-127", cells(x, x.pool(0, 1, false)));
        x.feed(0, 3, bytes(127));
        Check.same("127 127 127 127", cells(x, x.pool(0, 8, false)));
    }

    private void maxOfThere() {
        TensorForge x = new TensorForge();
        fedInput(x, 2, 2, 2, 1.0, -9, 100, -8, 90, -7, 80, -6, 70);
        // SAME, k 2: the last row and column hang over the end.
        Check.same("-6 100 -6 90 -6 80 -6 70", cells(x, x.pool(0, 7, false)));
        Check.same("-6 100", cells(x, x.pool(0, 1, false)));
        Check.same("-9 100", cells(x, x.pool(0, 3, false)));
    }

    private void averageHalves() {
        // Windows of two cells, side by side.
        int[][] pairs = {{0, 1}, {0, -1}, {1, 2}, {-1, -2}, {1, 1}, {-1, -1}, {126, 127}, {-127, -128}, {-1, 1},
            {-2, 1}, {2, -1}};
        int[] dues = {1, -1, 2, -2, 1, -1, 127, -128, 0, -1, 1};
        for (int i : range(0, dues.length - 1)) {
            TensorForge x = new TensorForge();
            fedInput(x, 1, 2, 1, 1.0, pairs[i]);
            x.pool(0, 7, true);
            Check.same(dues[i] + " " + pairs[i][1], cells(x, 1));
        }
        // Windows of four: quarters to the nearest, halves away.
        int[] sums = {1, 2, 3, 5, 6, -1, -2, -3, -5, -6};
        int[] fourths = {0, 1, 1, 1, 2, 0, -1, -1, -1, -2};
        for (int i : range(0, sums.length - 1)) {
            TensorForge x = new TensorForge();
            fedInput(x, 2, 2, 1, 1.0, sums[i], 0, 0, 0);
            x.pool(0, 1, true);
            Check.same(String.valueOf(fourths[i]), cells(x, 1));
        }
    }

    private void averageOfThere() {
        TensorForge x = new TensorForge();
        fedInput(x, 3, 3, 1, 1.0, 36, 0, 0, 0, 0, 0, 0, 0, 0);
        // SAME, k 3, step 1: 4, 6, 4 cells along the first row, 6, 9, 6 along the second.
        Check.same("9 6 0 6 4 0 0 0 0", cells(x, x.pool(0, 8, true)));
        x.feed(0, 0, bytes(0, 0, 0, 0, 0, 0, 0, 0));
        x.feed(0, 8, bytes(36));
        // SAME, k 2, step 1: 4, 4, 2 / 4, 4, 2 / 2, 2, 1 cells.
        Check.same("0 0 0 0 9 18 0 18 36", cells(x, x.pool(0, 7, true)));
        TensorForge y = new TensorForge();
        fedInput(y, 3, 1, 1, 1.0, 3, 4, 6);
        // 2, 3 and 2 cells: 3.5, 4.33, 5.
        Check.same("4 4 5", cells(y, y.pool(0, 8, true)));
    }

    private void averageOfLowest() {
        TensorForge x = new TensorForge();
        fedInput(x, 3, 3, 1, 1.0, times(9, -128));
        Check.same("-128 -128 -128 -128 -128 -128 -128 -128 -128", cells(x, x.pool(0, 8, true)));
        Check.same("-128", cells(x, x.pool(0, 2, true)));
        TensorForge y = new TensorForge();
        fedInput(y, 3, 3, 1, 1.0, times(9, 127));
        Check.same("127", cells(y, y.pool(0, 2, true)));
        Check.same("127 127 127 127", cells(y, y.pool(0, 11, true)));
    }

    /** The four kinds that slide windows, each over an input of two channels and with two of its own. */
    private enum Sliding {
        CONV, DEPTHWISE, MAX, AVERAGE;

        int make(TensorForge x, int node, int code) {
            switch (this) {
                case CONV:
                    return x.windows(node, code + 24, false, 0, 1.0);
                case DEPTHWISE:
                    return x.windows(node, code, true, 0, 1.0);
                default:
                    return x.pool(node, code, this == AVERAGE);
            }
        }
    }
}
