import java.util.Arrays;

/** What the tests build models with, and how they read them. */
abstract class Models {
    static final String IAE = Check.IAE;
    static final String AE = Check.AE;
    static final String ISE = Check.ISE;
    static final String UOE = Check.UOE;
    static final String NSEE = Check.NSEE;
    static final int MIN = Integer.MIN_VALUE;
    static final int MAX = Integer.MAX_VALUE;
    /** No plan can need a larger arena. */
    static final int ENOUGH = 14 * 128;
    static final double[] WRONG_SCALES = {0.0, -0.0, -1.0, -Double.MIN_VALUE, Math.nextUp(1000000.0),
        1000000.125, Double.MAX_VALUE, -Double.MAX_VALUE, Double.NaN, Double.POSITIVE_INFINITY,
        Double.NEGATIVE_INFINITY};

    /** Up to eight cells as the bytes of a number, the first one highest. */
    static long bytes(int... cells) {
        long all = 0;
        for (int i = 0; i < 8; i++) {
            all = all << 8 | (i < cells.length ? cells[i] & 0xff : 0);
        }
        return all;
    }

    static int fedInput(TensorForge x, int h, int w, int c, double scale, int... cells) {
        int node = x.input(h, w, c, scale);
        for (int from = 0; from < cells.length; from += 8) {
            x.feed(node, from, bytes(Arrays.copyOfRange(cells, from, from + 8)));
        }
        return node;
    }

    static void setWeights(TensorForge x, int offset, int... cells) {
        for (int from = 0; from < cells.length; from += 8) {
            x.weights(offset + from, bytes(Arrays.copyOfRange(cells, from, from + 8)));
        }
    }

    /** The cells of a node after a run with it as the output, as a text. */
    static String cells(TensorForge x, int node) {
        int number = x.output(node);
        x.compile();
        int sum = x.run(ENOUGH);
        int place = x.about(node, 7);
        StringBuilder text = new StringBuilder();
        int added = 0;
        for (int i = 0; i < number; i++) {
            int cell = x.arena(place + i);
            added += cell;
            text.append(i == 0 ? "" : " ").append(cell);
        }
        Check.holds("run answers the sum of " + text, sum == added);
        return text.toString();
    }

    static String shape(TensorForge x, int node) {
        return x.about(node, 1) + " " + x.about(node, 2) + " " + x.about(node, 3);
    }

    /** Inputs of SHAPE 2, 2, 2 and SCALE 1.0. */
    static TensorForge inputs(int number) {
        TensorForge x = new TensorForge();
        for (int i = 0; i < number; i++) {
            x.input(2, 2, 2, 1.0);
        }
        return x;
    }

    static TensorForge full() {
        return inputs(14);
    }

    static int[] range(int first, int last) {
        int[] all = new int[last - first + 1];
        for (int i = 0; i < all.length; i++) {
            all[i] = first + i;
        }
        return all;
    }

    /** As many times the same cell. */
    static int[] times(int number, int cell) {
        int[] all = new int[number];
        Arrays.fill(all, cell);
        return all;
    }

    static void standsFor(TensorForge x, int... due) {
        for (int node : range(0, due.length - 1)) {
            Check.due(due[node], () -> x.about(node, 4));
        }
    }

    static void states(TensorForge x, int... due) {
        for (int node : range(0, due.length - 1)) {
            Check.due(due[node], () -> x.about(node, 5));
        }
    }

    static void plan(TensorForge x, int node, int step, int place) {
        Check.due(step, () -> x.about(node, 6));
        Check.due(place, () -> x.about(node, 7));
    }

    /** A void call, as one that answers. */
    static String weightScale(TensorForge x, double scale) {
        x.weightScale(scale);
        return "done";
    }
}
