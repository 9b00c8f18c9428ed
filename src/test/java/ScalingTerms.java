import java.util.Arrays;

/** The terms of scales, ratios and rounding. */
final class ScalingTerms extends Sentences {
    private static final String SUM = "R of a sum is it SCALED by the node's RATIO and CUT.";
    private static final String WEIGHTED = "For CONV, DEPTHWISE and DENSE the RATIO is the input's SCALE times"
            + " the WSCALE that was when the node was made, divided by its own SCALE.";
    private static final String RESCALED = "RESCALE: R of each cell, RATIO: the input's SCALE divided by its own.";
    private static final String ADDED = "ADD: each input's cell SCALED by that input's SCALE divided by the own one,"
            + " the sum of both CUT.";
    private static final String INHERITED =
            "CONCAT, RESHAPE, MAX, AVERAGE and CLAMP have the SCALE of their (first) input.";
    private static final String CUT = "CUT: -128 for less, 127 for more.";
    private static final String HALVED = "A whole number s SCALED by a RATIO r (a double): e is 0;"
            + " while r is at least 1.0 it is halved and e rises by 1;";
    private static final String DOUBLED = "while it is below 0.5 it is doubled and e falls by 1;";
    private static final String WHOLE = "m is r times 2147483648.0 plus 0.5, cut to a long;";
    private static final String CARRIED = "if that is 2147483648 then m is 1073741824 and e 1 more.";
    private static final String DIVIDED = "s times m divided by 2 to the power 31 - e, HALVES AWAY"
            + " (to the nearest whole number, a half away from 0).";
    private static final String GOOD = "A RATIO is GOOD if it is above 0.0000001 and below 30000.0.";

    private static final double[] GOOD_EDGES = {Math.nextUp(0.0000001), Math.nextDown(30000.0)};
    private static final double[] BAD_EDGES = {0.0000001, Math.nextDown(0.0000001), 30000.0, Math.nextUp(30000.0)};

    ScalingTerms(Document document) {
        super(document);
    }

    @Override
    void all() {
        test(SUM, "the sum, not each product", this::sumThenScale);
        test(SUM, "a sum outside -128 .. 127 that is scaled back inside", this::cutBehind);
        test(WEIGHTED, "the WSCALE of then, not of the run", this::weightScaleOfThen);
        test(WEIGHTED, "first times, then divided", this::timesThenDivided);
        test(RESCALED, "twice and half", this::rescaled);
        test(ADDED, "each one is rounded for itself", this::addRounds);
        test(ADDED, "far outside before the sum is cut", this::addCutsLate);
        test(INHERITED, "of the first input, seen in the result", this::inherited);
        test(CUT, "-129, -128, 127 and 128 of a sum", this::cutSums);
        test(CUT, "-129, -128, 127 and 128 of an add", this::cutAdds);
        test(CUT, "next to the edges of a rescale", this::cutRescales);
        test(HALVED, "1.0 changes no cell at all", this::ratioOne);
        test(HALVED, "powers of two, 1.0 and what lies next to it", this::halved);
        test(HALVED, "the greatest ratios", this::greatestRatios);
        test(DOUBLED, "0.5 and what lies next to it, and further down", this::doubled);
        test(DOUBLED, "the least ratios, the greatest sums", this::leastRatios);
        test(WHOLE, "just a half, and just below it", this::wholeNumber);
        test(CARRIED, "the last ratio that is carried, and the first that is not", this::carried);
        test(DIVIDED, "halves of both signs, and what lies next to them", this::halvesAway);
        test(DIVIDED, "no sum runs over", this::noSumRunsOver);
        test(GOOD, "0.0000001, 30000.0 and what lies next to them, of each kind", this::goodRatios);
        test(GOOD, "either ratio of an add", this::goodRatiosOfAdd);
        test(GOOD, "a ratio that runs over or under", this::ratiosThatRunOver);
    }

    /** Scales cells by a ratio in every way that there is. */
    private static void scaled(double ratio, String due, int... cells) {
        TensorForge x = new TensorForge();
        int number = cells.length;
        int in = fedInput(x, 1, 1, number, ratio, cells);
        int zero = x.input(1, 1, number, 1.0);
        x.weights(0, bytes(Arrays.copyOf(times(number, 1), 8)));
        Check.same(due, cells(x, x.add(in, zero, 1.0)));
        Check.same(due, cells(x, x.add(zero, in, 1.0)));
        Check.same(due, cells(x, x.windows(in, 0, true, 0, 1.0)));
        // With a ratio of 1.0 it stands for its input, and nothing is scaled.
        Check.same(due, cells(x, x.rescale(in, 1.0)));
    }

    private void sumThenScale() {
        TensorForge x = new TensorForge();
        fedInput(x, 2, 2, 1, 1.0, 1, 1, 1, 0);
        setWeights(x, 0, 1, 1, 1, 1, 0);
        // 3 by a half is 2; three times a half, each rounded, would be 3.
        Check.same("2", cells(x, x.windows(0, 1 + 12, false, 0, 2.0)));
        Check.same("2", cells(x, x.windows(0, 1, true, 0, 2.0)));
        Check.same("2", cells(x, x.dense(0, 1, 0, 2.0)));
        // The bias belongs to the sum: 3 - 16 by a half is -6.5.
        setWeights(x, 0, 1, 1, 1, 1, -1);
        Check.same("-7", cells(x, x.windows(0, 1 + 12, false, 0, 2.0)));
        Check.same("-7", cells(x, x.windows(0, 1, true, 0, 2.0)));
        Check.same("-7", cells(x, x.dense(0, 1, 0, 2.0)));
    }

    private void cutBehind() {
        TensorForge x = new TensorForge();
        fedInput(x, 1, 1, 1, 1.0, 100);
        setWeights(x, 0, 4, 0);
        setWeights(x, 8, -4, 0);
        for (Maker weighted : new Maker[] {Maker.CONV, Maker.DEPTHWISE, Maker.DENSE}) {
            Check.same("100", cells(x, weighted.make(x, 0, 4.0)));
            Check.same("127", cells(x, weighted.make(x, 0, 2.0)));
        }
        Check.same("-100", cells(x, x.dense(0, 1, 8, 4.0)));
        Check.same("-128", cells(x, x.dense(0, 1, 8, 2.0)));
    }

    private void weightScaleOfThen() {
        for (Maker weighted : new Maker[] {Maker.CONV, Maker.DEPTHWISE, Maker.DENSE}) {
            TensorForge x = new TensorForge();
            fedInput(x, 1, 1, 1, 0.5, 8);
            setWeights(x, 0, 3, 0);
            x.weightScale(2.0);
            int node = weighted.make(x, 0, 0.25);
            x.weightScale(0.5);
            // 24 by 0.5 * 2.0 / 0.25.
            Check.same("96", cells(x, node));
            Check.due(24.0, () -> x.result(0));
            Check.same("24", cells(x, weighted.make(x, 0, 0.25)));
        }
    }

    private void timesThenDivided() {
        for (Maker weighted : new Maker[] {Maker.CONV, Maker.DEPTHWISE, Maker.DENSE}) {
            // Only in this order 0.3 * 0.3 / 0.000003 is below 30000.0, and 0.3 * 8.7 / 0.000087 is not.
            Check.due(1, () -> weighted(weighted, 0.3, 0.3, 0.000003));
            Check.due(AE, () -> weighted(weighted, 0.3, 8.7, 0.000087));
            // The product runs under to 0.0, and so does the ratio.
            Check.due(AE, () -> weighted(weighted, 1e-300, 1e-24, Double.MIN_VALUE));
            Check.due(1, () -> weighted(weighted, 1e-300, 1e-20, 1e-320));
        }
    }

    private static int weighted(Maker weighted, double input, double weightScale, double own) {
        TensorForge x = new TensorForge();
        x.input(2, 2, 2, input);
        x.weightScale(weightScale);
        return weighted.make(x, 0, own);
    }

    private void rescaled() {
        TensorForge x = new TensorForge();
        int in = fedInput(x, 1, 1, 4, 0.5, 5, -5, 40, -40);
        x.weightScale(7.0);
        Check.same("3 -3 20 -20", cells(x, x.rescale(in, 1.0)));
        Check.same("10 -10 80 -80", cells(x, x.rescale(in, 0.25)));
    }

    private void addRounds() {
        TensorForge x = new TensorForge();
        int one = fedInput(x, 1, 1, 4, 1.0, 1, -1, 1, 3);
        int other = fedInput(x, 1, 1, 4, 0.5, 1, -1, -2, 2);
        x.weightScale(7.0);
        // Halves of the first: 1, -1, 1, 2; quarters of the second: 0, 0, -1, 1.
        Check.same("1 -1 0 3", cells(x, x.add(one, other, 2.0)));
        Check.same("1 -1 0 3", cells(x, x.add(other, one, 2.0)));
        // 0.5 and 0.5 are 1 and 1.
        Check.same("2 -2 2 4", cells(x, x.add(one, one, 2.0)));
    }

    private void addCutsLate() {
        TensorForge x = new TensorForge();
        int one = fedInput(x, 1, 1, 3, 1.0, 100, -100, 127);
        int other = fedInput(x, 1, 1, 3, 1.0, -90, 90, 127);
        // 800 - 720, -800 + 720 and 2032.
        Check.same("80 -80 127", cells(x, x.add(one, other, 0.125)));
    }

    private void inherited() {
        TensorForge x = new TensorForge();
        int in = fedInput(x, 1, 2, 2, 0.25, 1, 2, 3, 4);
        int other = fedInput(x, 1, 2, 1, 0.25, 9, 9);
        int fine = x.input(1, 2, 1, 0.125);
        int flat = x.input(2, 1, 1, 0.25);
        x.weightScale(7.0);
        int[] nodes = {x.concat(in, other), x.reshape(in, 2, 1, 2), x.pool(in, 0, false), x.pool(in, 0, true),
            x.clamp(in, 1, 100)};
        for (int node : nodes) {
            x.output(node);
            x.compile();
            x.run(ENOUGH);
            Check.due(0.25, () -> x.result(0));
            Check.due(0.5, () -> x.result(1));
            Check.due(IAE, () -> x.concat(node, fine));
        }
        // A concat asks for the same scale, so one that is allowed shows it too.
        int due = nodes[4] + 1;
        Check.due(due, () -> x.concat(nodes[0], other));
        Check.due(due + 1, () -> x.concat(nodes[1], flat));
        Check.due(due + 2, () -> x.concat(nodes[2], other));
        Check.due(due + 3, () -> x.concat(nodes[3], other));
        Check.due(due + 4, () -> x.concat(nodes[4], other));
    }

    private void cutSums() {
        // A weight that meets a cell of 1, a bias, and what their sum is cut to.
        int[][] rows = {{-2, 8, 126}, {-1, 8, 127}, {0, 8, 127}, {1, 8, 127}, {1, -8, -127}, {0, -8, -128},
            {-1, -8, -128}, {-2, -8, -128}, {127, 127, 127}, {-128, -128, -128}};
        for (int[] row : rows) {
            TensorForge y = new TensorForge();
            fedInput(y, 1, 1, 1, 1.0, 1);
            setWeights(y, 0, row[0], row[1]);
            String due = String.valueOf(row[2]);
            Check.same(due, cells(y, y.windows(0, 12, false, 0, 1.0)));
            Check.same(due, cells(y, y.windows(0, 0, true, 0, 1.0)));
            Check.same(due, cells(y, y.dense(0, 1, 0, 1.0)));
        }
    }

    private void cutAdds() {
        TensorForge x = new TensorForge();
        int one = fedInput(x, 1, 1, 8, 1.0, 126, 127, 127, 127, -127, -128, -128, -128);
        int other = fedInput(x, 1, 1, 8, 1.0, 1, 0, 1, 127, -1, 0, -1, -128);
        Check.same("127 127 127 127 -128 -128 -128 -128", cells(x, x.add(one, other, 1.0)));
    }

    private void cutRescales() {
        scaled(2.0, "126 127 127 -126 -128 -128 127 -128", 63, 64, 65, -63, -64, -65, 127, -128);
    }

    private void ratioOne() {
        for (int half : range(0, 1)) {
            TensorForge x = new TensorForge();
            int[] all = range(half == 0 ? -128 : 0, half == 0 ? -1 : 127);
            fedInput(x, 4, 4, 8, 1.0, all);
            x.input(4, 4, 8, 1.0);
            String due = Arrays.toString(all).replaceAll("[\\[\\],]", "");
            Check.same(due, cells(x, x.add(0, 1, 1.0)));
            setWeights(x, 0, times(8, 1));
            Check.same(due, cells(x, x.windows(0, 0, true, 0, 1.0)));
        }
    }

    private void halved() {
        scaled(1.0, "1 -1 3 -3 127 -128 0", 1, -1, 3, -3, 127, -128, 0);
        scaled(Math.nextDown(1.0), "1 -1 3 -3 127 -128 0", 1, -1, 3, -3, 127, -128, 0);
        scaled(Math.nextUp(1.0), "1 -1 3 -3 127 -128 0", 1, -1, 3, -3, 127, -128, 0);
        scaled(2.0, "2 -2 6 -6 126 -128 0", 1, -1, 3, -3, 63, -64, 0);
        scaled(Math.nextDown(2.0), "2 -2 6 -6 126 -128 0", 1, -1, 3, -3, 63, -64, 0);
        scaled(64.0, "64 -64 127 -128 0", 1, -1, 2, -2, 0);
        scaled(127.0, "127 -127 127 -128 0", 1, -1, 2, -2, 0);
        scaled(126.5, "127 -127", 1, -1);
        scaled(126.4, "126 -126", 1, -1);
        scaled(16384.0, "127 -128 0", 1, -1, 0);
        // Above 1.0 it is halved, so that m tells ratios apart only half as well: this one has that of 1.0625.
        double likeMore = 1.0625 - 1.0 / 2147483648.0;
        scaled(likeMore, "9 -9", 8, -8);
        scaled(Math.nextDown(likeMore), "8 -8", 8, -8);
    }

    private void greatestRatios() {
        TensorForge x = new TensorForge();
        int one = fedInput(x, 1, 1, 4, Math.nextDown(30000.0), 1, -1, 127, -127);
        int other = fedInput(x, 1, 1, 4, 29999.0, -1, 1, -127, 127);
        // The nearest m to the greatest ratio is that of 30000.
        Check.same("1 -1 127 -127", cells(x, x.add(one, other, 1.0)));
        TensorForge y = new TensorForge();
        int half = fedInput(y, 1, 1, 2, 29999.5, 1, -1);
        int less = fedInput(y, 1, 1, 2, 29990.0, -1, 1);
        Check.same("10 -10", cells(y, y.add(half, less, 1.0)));
        scaled(Math.nextDown(30000.0), "127 -128 0 127 -128", 1, -1, 0, 127, -128);
    }

    private void doubled() {
        scaled(0.5, "1 -1 1 -1 2 -2 64 -64", 1, -1, 2, -2, 3, -3, 127, -128);
        scaled(Math.nextUp(0.5), "1 -1 1 -1 2 -2 64 -64", 1, -1, 2, -2, 3, -3, 127, -128);
        scaled(Math.nextDown(0.5), "1 -1 1 -1 2 -2 64 -64", 1, -1, 2, -2, 3, -3, 127, -128);
        scaled(0.25, "0 0 1 -1 1 2 32 -32", 1, -1, 2, -2, 5, 6, 127, -128);
        scaled(Math.nextDown(0.25), "0 0 1 -1 1 2 32 -32", 1, -1, 2, -2, 5, 6, 127, -128);
        // 127 and -128 by 1 / 256.
        scaled(0.00390625, "0 -1 0", 127, -128, -127);
        scaled(Math.nextUp(0.0000001), "0 0 0", 127, -128, 1);
    }

    /** A sum of 128 products of one cell and one weight, and a bias, by a ratio that is given as the WSCALE. */
    private static String largeSum(double ratio, int cell, int weight, int bias) {
        TensorForge x = new TensorForge();
        fedInput(x, 4, 4, 8, 1.0, times(128, cell));
        setWeights(x, 0, times(128, weight));
        x.weights(128, bytes(bias));
        x.weightScale(ratio);
        return cells(x, x.dense(0, 1, 0, 1.0));
    }

    private void leastRatios() {
        double bit22 = 1.0 / 4194304.0;
        // 2 to the power 21 by 2 to the power -22 is just a half.
        Check.same("1", largeSum(bit22, -128, -128, 0));
        Check.same("0", largeSum(bit22, -128, -128, -1));
        Check.same("1", largeSum(bit22, -128, -128, 1));
        Check.same("-1", largeSum(2.0 * bit22, -128, 64, 0));
        Check.same("0", largeSum(2.0 * bit22, -128, 64, 1));
        Check.same("0", largeSum(Math.nextUp(0.0000001), -128, -128, 127));
        Check.same("0", largeSum(Math.nextUp(0.0000001), -128, 127, -128));
    }

    private void wholeNumber() {
        // Halved, 1.5 has the whole number 1610612736; 2 to the power -31 less is just half of one below it.
        double just = 1.5 - 1.0 / 2147483648.0;
        scaled(1.5, "2 -2 5 -5", 1, -1, 3, -3);
        scaled(just, "2 -2 5 -5", 1, -1, 3, -3);
        scaled(Math.nextDown(just), "1 -1 4 -4", 1, -1, 3, -3);
        scaled(1.5 - 2.0 / 2147483648.0, "1 -1 4 -4", 1, -1, 3, -3);
        // Upwards: 2.5 less one whole number is below the half, and half of it more is the half again.
        double below = 2.5 - 1.0 / 536870912.0;
        scaled(below, "2 -2", 1, -1);
        scaled(2.5 - 1.0 / 1073741824.0, "3 -3", 1, -1);
        scaled(Math.nextDown(2.5 - 1.0 / 1073741824.0), "2 -2", 1, -1);
    }

    private void carried() {
        // Doubled it is 1 - 1 / 2 to the power 32: just half of a whole number below 2147483648.
        double last = 0.5 - 1.0 / 8589934592.0;
        scaled(last, "1 -1 2 -2 64 -64", 1, -1, 3, -3, 127, -127);
        scaled(Math.nextDown(last), "0 0 1 -1 63 -63", 1, -1, 3, -3, 127, -127);
        scaled(1.0 - 1.0 / 4294967296.0, "1 -1 3 -3 127 -128", 1, -1, 3, -3, 127, -128);
        scaled(last / 4.0, "1 -1 2 -2", 4, -4, 12, -12);
        scaled(Math.nextDown(last / 4.0), "0 0 1 -1", 4, -4, 12, -12);
    }

    private void halvesAway() {
        scaled(0.5, "0 1 -1 2 -2 3 -3", 0, 1, -1, 3, -3, 5, -5);
        scaled(2.5, "3 -3 5 -5 8 -8", 1, -1, 2, -2, 3, -3);
        scaled(0.125, "0 0 1 -1 1 -1", 3, -3, 4, -4, 5, -5);
        scaled(0.125, "1 -1 2 -2 16 -16", 11, -11, 12, -12, 127, -128);
        scaled(0.75, "1 -1 2 -2 2 -2", 1, -1, 2, -2, 3, -3);
        scaled(1.0 / 3.0, "0 0 1 -1 1 -1 42 -43", 1, -1, 2, -2, 4, -4, 127, -128);
    }

    private void noSumRunsOver() {
        // 2099184 and -2082816 are the sums that are furthest from 0.
        Check.same("127", largeSum(Math.nextDown(30000.0), -128, -128, 127));
        Check.same("-128", largeSum(Math.nextDown(30000.0), -128, 127, -128));
        Check.same("127", largeSum(1.0, -128, -128, 127));
        Check.same("-128", largeSum(1.0, -128, 127, -128));
        Check.same("64", largeSum(1.0 / 32768.0, -128, -128, 127));
        Check.same("-64", largeSum(1.0 / 32768.0, -128, 127, -128));
    }

    private void goodRatios() {
        for (Maker maker : Maker.values()) {
            if (maker.hasRatio()) {
                for (double good : GOOD_EDGES) {
                    TensorForge x = new TensorForge();
                    x.input(2, 2, 2, good);
                    Check.due(1, () -> maker.make(x, 0, 1.0));
                }
                for (double bad : BAD_EDGES) {
                    TensorForge x = new TensorForge();
                    x.input(2, 2, 2, bad);
                    Check.due(AE, () -> maker.make(x, 0, 1.0));
                    Check.due(1, () -> x.input(1, 1, 1, 1.0));
                }
            }
        }
        for (Maker maker : new Maker[] {Maker.CONV, Maker.DEPTHWISE, Maker.DENSE}) {
            for (double good : GOOD_EDGES) {
                Check.due(1, () -> weighted(maker, 1.0, good, 1.0));
            }
            for (double bad : BAD_EDGES) {
                Check.due(AE, () -> weighted(maker, 1.0, bad, 1.0));
            }
        }
    }

    private void goodRatiosOfAdd() {
        for (double good : GOOD_EDGES) {
            TensorForge x = inputs(1);
            x.input(2, 2, 2, good);
            Check.due(2, () -> x.add(0, 1, 1.0));
            Check.due(3, () -> x.add(1, 0, 1.0));
        }
        for (double bad : BAD_EDGES) {
            TensorForge x = inputs(1);
            x.input(2, 2, 2, bad);
            Check.due(AE, () -> x.add(0, 1, 1.0));
            Check.due(AE, () -> x.add(1, 0, 1.0));
            Check.due(2, () -> x.add(0, 0, 1.0));
        }
    }

    private void ratiosThatRunOver() {
        for (Maker maker : Maker.values()) {
            if (maker.hasRatio()) {
                TensorForge x = new TensorForge();
                x.input(2, 2, 2, 1000000.0);
                x.input(2, 2, 2, Double.MIN_VALUE);
                Check.due(AE, () -> maker.make(x, 0, Double.MIN_VALUE));
                Check.due(AE, () -> maker.make(x, 1, 1000000.0));
                // A scale far from 1.0 is fine where the ratio is.
                Check.due(2, () -> maker.make(x, 0, 1000000.0));
                Check.due(3, () -> maker.make(x, 1, Double.MIN_VALUE));
            }
        }
        TensorForge y = inputs(1);
        y.weightScale(1000000.0);
        Check.due(AE, () -> y.dense(0, 1, 0, Double.MIN_VALUE));
        y.weightScale(Double.MIN_VALUE);
        Check.due(AE, () -> y.dense(0, 1, 0, 1000000.0));
        Check.due(1, () -> y.dense(0, 1, 0, Double.MIN_VALUE));
    }
}
