/** Every promise of the document in turn, with answers worked out by hand. */
public final class PromiseTest extends Models {
    public static void main(String[] args) {
        promise1();
        promise2();
        promise3();
        promise4();
        promise5();
        promise6();
        promise7();
        promise8();
        promise9();
        promise10();
        promise11();
        promise12();
        promise13();
        promise14Smaller();
        promise14Fused();
        promise14Plan();
        promise15();
        promise16();
        promise17();
        promise18();
        promise19();
        promise20();
        Check.end();
    }

    private static void promise1() {
        Check.part("promise 1");
        TensorForge x = new TensorForge();
        Check.due(IAE, () -> x.about(0, 0));
        Check.due(IAE, () -> x.output(0));
        Check.due(IAE, () -> x.feed(0, 0, 1L));
        Check.due(IAE, () -> x.windows(0, 12, false, 0, 1.0));
        Check.due(IAE, () -> x.dense(0, 1, 0, 1.0));
        Check.due(IAE, () -> x.add(0, 0, 1.0));
        Check.due(IAE, () -> x.concat(0, 0));
        Check.due(IAE, () -> x.reshape(0, 1, 1, 1));
        Check.due(IAE, () -> x.pool(0, 0, false));
        Check.due(IAE, () -> x.clamp(0, 0, 0));
        Check.due(IAE, () -> x.rescale(0, 1.0));
        Check.due(ISE, x::compile);
        Check.due(ISE, x::peak);
        Check.due(ISE, () -> x.run(0));
        Check.due(NSEE, () -> x.arena(0));
        Check.due(NSEE, () -> x.result(0));
        Check.due(0, () -> x.input(1, 1, 1, 1.0));
        TensorForge y = new TensorForge();
        Check.due(IAE, () -> y.about(0, 0));
        // WEIGHTS are all 0 and WSCALE is 1.0: a cell of 100 with the first weight 1 stays 100.
        int in = fedInput(y, 1, 1, 1, 1.0, 100);
        Check.same("0 0 0 0", cells(y, y.dense(in, 4, 504, 1.0)));
        y.weights(0, bytes(1));
        Check.same("100", cells(y, y.dense(in, 1, 0, 1.0)));
    }

    private static void promise2() {
        Check.part("promise 2");
        TensorForge x = new TensorForge();
        Check.due(IAE, () -> x.weights(-1, 1L));
        Check.due(IAE, () -> x.weights(512, 1L));
        Check.due(IAE, () -> x.weights(Integer.MIN_VALUE, 1L));
        Check.due(IAE, () -> x.weights(Integer.MAX_VALUE, 1L));
        Check.due(8, () -> x.weights(0, bytes(1, -1, 127, -128, 5, 0, -7, 9)));
        Check.due(8, () -> x.weights(504, bytes(1, 2, 3, 4, 5, 6, 7, 8)));
        Check.due(7, () -> x.weights(505, bytes(11, 12, 13, 14, 15, 16, 17, 99)));
        Check.due(1, () -> x.weights(511, bytes(-9, 99, 99, 99, 99, 99, 99, 99)));
        // Eight outputs of one cell of 1, with their eight biases far from the weights: each one reads a weight.
        int one = fedInput(x, 1, 1, 1, 1.0, 1);
        int read = x.dense(one, 8, 0, 1.0);
        Check.same("1 -1 127 -128 5 0 -7 9", cells(x, read));
        // Cells of 0 leave 16 times the biases, which a scale of 16 makes the biases themselves.
        int zero = x.input(1, 1, 1, 1.0);
        int biases = x.dense(zero, 8, 496, 16.0);
        Check.same("1 11 12 13 14 15 16 -9", cells(x, biases));
        // Weights are read when the model runs, and setting them does not undo the compiling.
        x.output(read);
        x.compile();
        x.weights(2, bytes(3, 3));
        x.run(ENOUGH);
        Check.due(3.0, () -> x.result(2));
        Check.due(3.0, () -> x.result(3));
        Check.due(0.0, () -> x.result(4));
        Check.due(-1.0, () -> x.result(1));
    }

    private static void promise3() {
        Check.part("promise 3");
        TensorForge x = new TensorForge();
        setWeights(x, 0, 10);
        int in = fedInput(x, 1, 1, 1, 1.0, 2);
        int before = x.dense(in, 1, 0, 1.0);
        x.weightScale(0.5);
        for (double wrong : WRONG_SCALES) {
            Check.due(IAE, () -> {
                x.weightScale(wrong);
                return "done";
            });
        }
        int after = x.dense(in, 1, 0, 1.0);
        int window = x.windows(in, 12, false, 0, 1.0);
        int deep = x.windows(in, 0, true, 0, 1.0);
        x.weightScale(1.0);
        Check.same("20", cells(x, before));
        Check.same("10", cells(x, after));
        Check.same("10", cells(x, window));
        Check.same("10", cells(x, deep));
        int again = x.dense(in, 1, 0, 1.0);
        x.output(again);
        x.compile();
        Check.due(before, () -> x.about(again, 4));
        Check.due(after, () -> x.about(after, 4));
        x.weightScale(1000000.0);
        Check.due(AE, () -> x.dense(in, 1, 0, 1.0));
        Check.due(6, () -> x.dense(in, 1, 0, 1000.0));
        x.weightScale(Double.MIN_VALUE);
        Check.due(AE, () -> x.dense(in, 1, 0, 1.0));
        // Setting it does not undo the compiling either.
        x.compile();
        x.weightScale(3.0);
        Check.due(2, x::peak);
    }

    private static void promise4() {
        Check.part("promise 4");
        TensorForge x = new TensorForge();
        int[][] wrong = {{0, 1, 1}, {5, 1, 1}, {1, 0, 1}, {1, 5, 1}, {1, 1, 0}, {1, 1, 9}, {-1, 1, 1},
            {Integer.MIN_VALUE, 1, 1}, {1, Integer.MAX_VALUE, 1}, {65536, 65536, 1}};
        for (int[] s : wrong) {
            Check.due(IAE, () -> x.input(s[0], s[1], s[2], 1.0));
        }
        for (double scale : WRONG_SCALES) {
            Check.due(IAE, () -> x.input(1, 1, 1, scale));
        }
        Check.due(0, () -> x.input(4, 4, 8, 1000000.0));
        Check.due(1, () -> x.input(1, 1, 1, Double.MIN_VALUE));
        Check.due(2, () -> x.input(1, 2, 3, 0.5));
        Check.due(0, () -> x.about(0, 0));
        Check.same("4 4 8", shape(x, 0));
        Check.same("1 2 3", shape(x, 2));
        Check.same("0 0 0 0 0 0", cells(x, 2));
        // Alike inputs never stand for one another.
        x.input(1, 2, 3, 0.5);
        x.output(3);
        x.compile();
        Check.due(3, () -> x.about(3, 4));
        for (int i = 4; i < 14; i++) {
            int due = i;
            Check.due(due, () -> x.input(1, 1, 1, 1.0));
        }
        x.compile();
        Check.due(ISE, () -> x.input(1, 1, 1, 1.0));
        Check.due(IAE, () -> x.input(1, 1, 9, 1.0));
        Check.due(IAE, () -> x.about(14, 0));
        // The call that threw changed nothing: all is compiled still.
        Check.due(6, x::peak);
    }

    private static void promise5() {
        promise5Refusals();
        promise5Conv();
        promise5Depthwise();
        promise5Shapes();
        promise5NotSquare();
        promise5Scaling();
    }

    private static void promise5Refusals() {
        Check.part("promise 5, refusals");
        TensorForge x = new TensorForge();
        int in = x.input(2, 3, 8, 1.0);
        for (int code : new int[] {-1, 0, 11, 108, 119, -12, Integer.MIN_VALUE, Integer.MAX_VALUE}) {
            Check.due(IAE, () -> x.windows(in, code, false, 0, 1.0));
        }
        for (int code : new int[] {-1, 12, 13, Integer.MIN_VALUE, Integer.MAX_VALUE}) {
            Check.due(IAE, () -> x.windows(in, code, true, 0, 1.0));
        }
        for (double scale : WRONG_SCALES) {
            Check.due(IAE, () -> x.windows(in, 12, false, 0, scale));
        }
        for (int node : new int[] {-1, 1, Integer.MAX_VALUE}) {
            Check.due(IAE, () -> x.windows(node, 12, false, 0, 1.0));
        }
        // k is 3 and h is 2: only SAME windows fit.
        Check.due(IAE, () -> x.windows(in, 2, true, 0, 1.0));
        Check.due(IAE, () -> x.windows(in, 5, true, 0, 1.0));
        Check.due(IAE, () -> x.windows(in, 14, false, 0, 1.0));
        int turned = x.input(3, 2, 8, 1.0);
        Check.due(IAE, () -> x.windows(turned, 2, true, 0, 1.0));
        // Weights and biases: 8 * 9 * d and d, so 511 for d = 7 and 584 for d = 8.
        Check.due(IAE, () -> x.windows(in, 8 + 12 * 8, false, 0, 1.0));
        Check.due(IAE, () -> x.windows(in, 8 + 12 * 7, false, 2, 1.0));
        Check.due(IAE, () -> x.windows(in, 8 + 12 * 7, false, -1, 1.0));
        Check.due(2, () -> x.windows(in, 8 + 12 * 7, false, 1, 1.0));
        // Depthwise: 9 * 8 and 8.
        Check.due(IAE, () -> x.windows(in, 8, true, 433, 1.0));
        Check.due(IAE, () -> x.windows(in, 8, true, Integer.MAX_VALUE, 1.0));
        Check.due(IAE, () -> x.windows(in, 8, true, Integer.MIN_VALUE, 1.0));
        Check.due(3, () -> x.windows(in, 8, true, 432, 1.0));
        // In this order: arguments, then the ratio, then the number of nodes.
        TensorForge y = full();
        Check.due(IAE, () -> y.windows(0, 12, false, 512, 0.00001));
        Check.due(AE, () -> y.windows(0, 12, false, 0, 0.00001));
        Check.due(ISE, () -> y.windows(0, 12, false, 0, 1.0));
        Check.due(ISE, () -> y.windows(0, 0, true, 0, 1.0));
    }

    private static void promise5Conv() {
        Check.part("promise 5, conv");
        TensorForge x = new TensorForge();
        int in = fedInput(x, 2, 2, 2, 1.0, 1, 2, 3, 4, 5, 6, 7, 8);
        // k 2, two output channels: for o, then ky, then kx, then i; then two biases.
        setWeights(x, 10, 1, 0, 0, 1, -1, 0, 0, 2, 0, 1, 1, 0, 0, -1, -2, 0, 1, -2);
        int conv = x.windows(in, 1 + 12 * 2, false, 10, 1.0);
        Check.due(1, () -> x.about(conv, 0));
        Check.same("1 1 2", shape(x, conv));
        // 1 + 4 - 5 + 16 + 16 = 32; 2 + 3 - 6 - 14 - 32 = -47.
        Check.same("32 -47", cells(x, conv));
        // SAME with k 2 and step 1: p is 0, the window hangs over the last row and column.
        int same = x.windows(in, 7 + 12, false, 10, 1.0);
        Check.same("2 2 1", shape(x, same));
        // One channel: bias is the cell at 10 + 8, that is 0.
        // (0,0): 16; (0,1): 3 - 7; (1,0): 5 + 8; (1,1): 7.
        Check.same("16 -4 13 7", cells(x, same));
        // SAME with k 3 and step 1: p is 1.
        TensorForge y = new TensorForge();
        int grid = fedInput(y, 3, 3, 1, 1.0, 1, 2, 3, 4, 5, 6, 7, 8, 9);
        setWeights(y, 0, 1, 0, 0, 0, 0, 10, 0, 0, 0, 1);
        int all = y.windows(grid, 8 + 12, false, 0, 1.0);
        // Each cell: its upper left neighbour, ten times its right one, and 16.
        Check.same("36 46 16 66 77 18 96 110 21", cells(y, all));
        // SAME with k 3 and step 2 over 3: 2 places, p is (2 + 3 - 3) / 2 = 1.
        int stepping = y.windows(grid, 11 + 12, false, 0, 1.0);
        Check.same("36 16 96 21", cells(y, stepping));
        // Not SAME, k 1 and step 2.
        setWeights(y, 100, 2, -1);
        Check.same("-14 -10 -2 2", cells(y, y.windows(grid, 3 + 12, false, 100, 1.0)));
        // Not SAME with k 2, step 1: every window lies inside.
        setWeights(y, 200, 1, 2, 3, 4, 0);
        Check.same("37 47 67 77", cells(y, y.windows(grid, 1 + 12, false, 200, 1.0)));
    }

    private static void promise5Depthwise() {
        Check.part("promise 5, depthwise");
        TensorForge x = new TensorForge();
        int in = fedInput(x, 2, 2, 2, 1.0, 1, 2, 3, 4, 5, 6, 7, 8);
        // For i, then ky, then kx; then two biases.
        setWeights(x, 3, 1, 2, 3, 4, -1, 0, 0, 1, 1, -1);
        int deep = x.windows(in, 1, true, 3, 1.0);
        Check.due(2, () -> x.about(deep, 0));
        Check.same("1 1 2", shape(x, deep));
        // 1 + 6 + 15 + 28 + 16; -2 + 8 - 16.
        Check.same("66 -10", cells(x, deep));
        int same = x.windows(in, 7, true, 3, 1.0);
        // Channel 0: 50, 3 + 21, 5 + 14, 7, each with 16; channel 1: 6, -4, -6, -8, each with -16.
        Check.same("66 -10 40 -20 35 -22 23 -24", cells(x, same));
    }

    private static void promise5Shapes() {
        Check.part("promise 5, shapes");
        // Per code, the places along 1, 2, 3 and 4 cells; 0: does not fit.
        int[][] places = {{1, 2, 3, 4}, {0, 1, 2, 3}, {0, 0, 1, 2}, {1, 1, 2, 2}, {0, 1, 1, 2}, {0, 0, 1, 1},
            {1, 2, 3, 4}, {1, 2, 3, 4}, {1, 2, 3, 4}, {1, 1, 2, 2}, {1, 1, 2, 2}, {1, 1, 2, 2}};
        for (int code = 0; code < 12; code++) {
            for (int length = 1; length <= 4; length++) {
                TensorForge x = new TensorForge();
                int tall = x.input(length, 4, 1, 1.0);
                int wide = x.input(4, length, 1, 1.0);
                int windows = code;
                int due = places[code][length - 1];
                int full = places[code][3];
                if (due == 0) {
                    Check.due(IAE, () -> x.windows(tall, windows, true, 0, 1.0));
                    Check.due(IAE, () -> x.windows(wide, windows + 12, false, 0, 1.0));
                    Check.due(IAE, () -> x.pool(tall, windows, false));
                    Check.due(IAE, () -> x.pool(wide, windows, true));
                } else {
                    Check.same(due + " " + full + " 1", shape(x, x.windows(tall, windows, true, 0, 1.0)));
                    Check.same(full + " " + due + " 5", shape(x, x.windows(wide, windows + 60, false, 0, 1.0)));
                    Check.same(due + " " + full + " 1", shape(x, x.pool(tall, windows, false)));
                    Check.same(full + " " + due + " 1", shape(x, x.pool(wide, windows, true)));
                }
            }
        }
    }

    private static void promise5NotSquare() {
        Check.part("promise 5, not square");
        TensorForge x = new TensorForge();
        int in = fedInput(x, 2, 3, 1, 1.0, 1, 2, 3, 4, 5, 7);
        setWeights(x, 0, 1, 2, 3, 4, 5, 6, 7, 8, 9, 0);
        // SAME, k 3, step 2: along 2 there is 1 place and p is 0, along 3 there are 2 and p is 1.
        // 1 * 2 + 2 * 3 + 4 * 5 + 5 * 6 and 2 * 1 + 3 * 2 + 5 * 4 + 7 * 5.
        Check.same("58 63", cells(x, x.windows(in, 11 + 12, false, 0, 1.0)));
        Check.same("58 63", cells(x, x.windows(in, 11, true, 0, 1.0)));
        Check.same("5 7", cells(x, x.pool(in, 11, false)));
        // 12 / 4 and 17 / 4.
        Check.same("3 4", cells(x, x.pool(in, 11, true)));
        TensorForge y = new TensorForge();
        int tall = fedInput(y, 3, 1, 2, 1.0, 1, 2, 3, 4, 5, 6);
        setWeights(y, 0, 1, 2, 3, 4, 5, 6, 7, 8, 9, 1, 1, 1, 1, 1, 1, 1, 1, 1, 0, -1);
        // SAME, k 3, step 1: only the middle column of the weights meets cells.
        // Channel 0: 5 + 24, 2 + 15 + 40, 6 + 25; channel 1: 2 + 4, 2 + 4 + 6, 4 + 6, each with -16.
        Check.same("29 -10 57 -4 31 -6", cells(y, y.windows(tall, 8, true, 0, 1.0)));
        Check.same("3 4 5 6 5 6", cells(y, y.pool(tall, 8, false)));
        Check.same("2 3 3 4 4 5", cells(y, y.pool(tall, 8, true)));
        // The greatest code: d is 8 and the windows are 11.
        Check.same("2 1 8", shape(y, y.windows(tall, 107, false, 0, 1.0)));
        Check.same("1 2 1", shape(x, x.windows(in, 23, false, 0, 1.0)));
    }

    private static void promise5Scaling() {
        Check.part("promise 5, scaling");
        TensorForge x = new TensorForge();
        int in = fedInput(x, 1, 1, 4, 0.5, 5, -5, 127, -128);
        setWeights(x, 0, 1, 1, 1, 1, 0, 0, 0, 0);
        x.weightScale(0.5);
        // Ratio 0.25 / 0.5: halves away from 0.
        Check.same("3 -3 64 -64", cells(x, x.windows(in, 0, true, 0, 0.5)));
        // Ratio 1.0.
        Check.same("5 -5 127 -128", cells(x, x.windows(in, 0, true, 0, 0.25)));
        // Ratio 2.0: cut to -128 .. 127.
        Check.same("10 -10 127 -128", cells(x, x.windows(in, 0, true, 0, 0.125)));
        // The ratio is (scale times WSCALE) / scale: 0.25 / 1000000.0 is good, 0.25 / 0.000005 is not.
        Check.same("0 0 0 0", cells(x, x.windows(in, 0, true, 0, 1000000.0)));
        Check.due(AE, () -> x.windows(in, 0, true, 0, 0.000005));
        x.weightScale(0.0000002);
        // 0.0000001 is not above itself.
        Check.due(AE, () -> x.windows(in, 0, true, 0, 1.0));
        Check.same("0 0 0 0", cells(x, x.windows(in, 0, true, 0, 0.999)));
        // The sum, not each product, is scaled, and large sums do not run over.
        TensorForge y = new TensorForge();
        int big = fedInput(y, 4, 4, 8, 1.0);
        for (int i = 0; i < 128; i += 8) {
            y.feed(big, i, 0x8080808080808080L);
        }
        for (int i = 0; i < 512; i += 8) {
            y.weights(i, 0x8080808080808080L);
        }
        // 128 * 16384 - 2048 = 2095104, divided by 32768 is 63.9; by 20000: 104.8; with 29999 it is cut.
        Check.same("64 64 64", cells(y, y.dense(big, 3, 0, 32768.0)));
        Check.same("105", cells(y, y.dense(big, 1, 0, 20000.0)));
        Check.same("127", cells(y, y.dense(big, 1, 0, 1.0 / 29999.0)));
    }

    private static void promise6() {
        Check.part("promise 6");
        TensorForge x = new TensorForge();
        int in = fedInput(x, 2, 1, 2, 1.0, 1, -2, 3, -4);
        setWeights(x, 20, 1, 1, 1, 1, 2, 0, -1, 0, 0, 0, 0, 8, 1, 2, -1);
        int dense = x.dense(in, 3, 20, 1.0);
        Check.due(3, () -> x.about(dense, 0));
        Check.same("1 1 3", shape(x, dense));
        // 1 - 2 + 3 - 4 + 16; 2 - 3 + 32; -32 - 16.
        Check.same("14 31 -48", cells(x, dense));
        // 31 times 0.5 is 15.5 and goes up, 14 and -48 are even.
        Check.same("7 16 -24", cells(x, x.dense(in, 3, 20, 2.0)));
        for (int d : new int[] {0, -1, 9, Integer.MIN_VALUE, Integer.MAX_VALUE}) {
            Check.due(IAE, () -> x.dense(in, d, 0, 1.0));
        }
        for (int node : new int[] {-1, 3, Integer.MIN_VALUE}) {
            Check.due(IAE, () -> x.dense(node, 1, 0, 1.0));
        }
        for (double scale : WRONG_SCALES) {
            Check.due(IAE, () -> x.dense(in, 1, 0, scale));
        }
        // 8 outputs of 4 cells: 32 weights and 8 biases.
        Check.due(IAE, () -> x.dense(in, 8, 473, 1.0));
        Check.due(IAE, () -> x.dense(in, 8, -1, 1.0));
        Check.due(IAE, () -> x.dense(in, 8, Integer.MAX_VALUE, 1.0));
        Check.due(3, () -> x.dense(in, 8, 472, 1.0));
        int big = x.input(4, 4, 8, 1.0);
        Check.due(IAE, () -> x.dense(big, 4, 0, 1.0));
        Check.due(5, () -> x.dense(big, 3, 125, 1.0));
        Check.due(IAE, () -> x.dense(big, 3, 126, 1.0));
        Check.due(AE, () -> x.dense(in, 1, 0, 0.00001));
        TensorForge y = full();
        Check.due(IAE, () -> y.dense(0, 9, 0, 0.00001));
        Check.due(AE, () -> y.dense(0, 1, 0, 0.00001));
        Check.due(ISE, () -> y.dense(0, 1, 0, 1.0));
    }

    private static void promise7() {
        Check.part("promise 7");
        TensorForge x = new TensorForge();
        int one = fedInput(x, 1, 2, 2, 1.0, 1, -1, 100, -100);
        int other = fedInput(x, 1, 2, 2, 0.5, 3, -3, 60, -80);
        int add = x.add(one, other, 1.0);
        Check.due(4, () -> x.about(add, 0));
        Check.same("1 2 2", shape(x, add));
        // Each cell is scaled (1.5 to 2, -1.5 to -2) before both are added, and the sum is cut.
        Check.same("3 -3 127 -128", cells(x, add));
        // Scaled by 0.5 and 0.25: 0.5 and 0.75 are 1 each, so that the sum is 2.
        Check.same("2 -2 65 -70", cells(x, x.add(one, other, 2.0)));
        // Both scaled cells may be far outside: 100 * 256 - 60 * 128 is cut once, behind the sum.
        int minus = fedInput(x, 1, 2, 2, 0.5, 0, 0, -127, 127);
        int much = fedInput(x, 1, 2, 2, 1.0, 0, 0, 63, -63);
        Check.same("0 0 -4 4", cells(x, x.add(much, minus, 0.125)));
        Check.same("2 -2 127 -128", cells(x, x.add(one, one, 1.0)));
        int turned = x.input(2, 1, 2, 1.0);
        int deeper = x.input(1, 2, 3, 1.0);
        Check.due(IAE, () -> x.add(one, turned, 1.0));
        Check.due(IAE, () -> x.add(deeper, one, 1.0));
        Check.due(IAE, () -> x.add(-1, one, 1.0));
        Check.due(IAE, () -> x.add(one, -1, 1.0));
        Check.due(IAE, () -> x.add(one, 14, 1.0));
        Check.due(IAE, () -> x.add(14, one, 1.0));
        for (double scale : WRONG_SCALES) {
            Check.due(IAE, () -> x.add(one, one, scale));
        }
        // The edges of a good ratio: 1.0 / 0.00004 is 25000, 1.0 / 0.00003 is more than 30000.
        Check.due(IAE, () -> x.add(one, turned, 0.00003));
        Check.due(AE, () -> x.add(one, other, 0.00003));
        Check.due(10, () -> x.add(one, other, 0.00004));
        int fine = x.input(1, 2, 2, 0.0000001);
        // Only the second, or only the first ratio is not good.
        Check.due(AE, () -> x.add(one, fine, 1.0));
        Check.due(AE, () -> x.add(fine, one, 1.0));
        TensorForge y = full();
        Check.due(IAE, () -> y.add(0, 14, 0.00001));
        Check.due(AE, () -> y.add(0, 1, 0.00001));
        Check.due(ISE, () -> y.add(0, 1, 1.0));
    }

    private static void promise8() {
        Check.part("promise 8");
        TensorForge x = new TensorForge();
        int one = fedInput(x, 1, 2, 1, 0.5, 1, 2);
        int other = fedInput(x, 1, 2, 3, 0.5, 11, 12, 13, 21, 22, 23);
        int both = x.concat(one, other);
        Check.due(5, () -> x.about(both, 0));
        Check.same("1 2 4", shape(x, both));
        Check.same("1 11 12 13 2 21 22 23", cells(x, both));
        Check.due(0.5, () -> x.result(0));
        Check.same("11 12 13 1 21 22 23 2", cells(x, x.concat(other, one)));
        Check.same("1 1 2 2", cells(x, x.concat(one, one)));
        int eight = x.concat(both, both);
        Check.same("1 2 8", shape(x, eight));
        Check.due(IAE, () -> x.concat(eight, one));
        int five = x.input(1, 2, 5, 0.5);
        Check.due(IAE, () -> x.concat(five, both));
        Check.due(IAE, () -> x.concat(one, x.input(1, 2, 1, 0.25)));
        Check.due(IAE, () -> x.concat(one, x.input(2, 2, 1, 0.5)));
        Check.due(IAE, () -> x.concat(one, x.input(1, 1, 1, 0.5)));
        Check.due(IAE, () -> x.concat(-1, one));
        Check.due(IAE, () -> x.concat(one, 10));
        Check.due(10, () -> x.concat(five, other));
        TensorForge y = full();
        Check.due(IAE, () -> y.concat(0, 14));
        Check.due(ISE, () -> y.concat(0, 1));
    }

    private static void promise9() {
        Check.part("promise 9");
        TensorForge x = new TensorForge();
        int in = fedInput(x, 2, 2, 2, 0.5, 1, 2, 3, 4, 5, 6, 7, 8);
        int flat = x.reshape(in, 1, 4, 2);
        Check.due(6, () -> x.about(flat, 0));
        Check.same("1 4 2", shape(x, flat));
        Check.same("1 2 3 4 5 6 7 8", cells(x, flat));
        Check.due(4.0, () -> x.result(7));
        Check.due(2, () -> x.reshape(flat, 1, 1, 8));
        int[][] wrong = {{2, 2, 1}, {1, 8, 1}, {8, 1, 1}, {0, 2, 2}, {2, 2, 0}, {-2, -2, 2}, {4, 4, 8}, {1, 1, 9}};
        for (int[] s : wrong) {
            Check.due(IAE, () -> x.reshape(in, s[0], s[1], s[2]));
        }
        Check.due(IAE, () -> x.reshape(-1, 2, 2, 2));
        Check.due(IAE, () -> x.reshape(3, 2, 2, 2));
        int sixteen = x.input(4, 4, 1, 1.0);
        Check.due(IAE, () -> x.reshape(sixteen, 1, 1, 16));
        TensorForge y = full();
        Check.due(IAE, () -> y.reshape(0, 2, 2, 1));
        Check.due(ISE, () -> y.reshape(0, 1, 1, 8));
    }

    private static void promise10() {
        Check.part("promise 10");
        TensorForge x = new TensorForge();
        int in = fedInput(x, 3, 3, 1, 0.5, 1, -2, 3, -4, 5, -6, 7, -8, 9);
        int max = x.pool(in, 1, false);
        int average = x.pool(in, 1, true);
        Check.due(7, () -> x.about(max, 0));
        Check.due(8, () -> x.about(average, 0));
        Check.same("5 5 7 9", cells(x, max));
        Check.due(4.5, () -> x.result(3));
        // 0 / 4, 0 / 4, 0 / 4, 0 / 4.
        Check.same("0 0 0 0", cells(x, average));
        // SAME, k 3, step 2: windows of four cells: 1 - 2 - 4 + 5, -2 + 3 + 5 - 6, -4 + 5 + 7 - 8, 5 - 6 - 8 + 9.
        Check.same("0 0 0 0", cells(x, x.pool(in, 11, true)));
        // SAME, k 2: the last column has windows of two, the last cell of one: -3 / 2 is -1.5, that is -2.
        Check.same("0 0 -2 0 0 2 -1 1 9", cells(x, x.pool(in, 7, true)));
        Check.same("5 5 3 7 9 9 7 9 9", cells(x, x.pool(in, 7, false)));
        // A window counts only cells that are there: all negative cells stay negative.
        int low = fedInput(x, 2, 2, 2, 1.0, -128, -1, -5, -2, -6, -3, -7, -4);
        Check.same("-5 -1 -5 -1 -5 -1 -5 -1", cells(x, x.pool(low, 8, false)));
        // -146 / 4 is -36.5, -10 / 4 is -2.5: both away from 0.
        Check.same("-37 -3", cells(x, x.pool(low, 1, true)));
        int high = fedInput(x, 2, 2, 1, 1.0, 1, 2, 3, 4);
        Check.same("3", cells(x, x.pool(high, 1, true)));
        int third = fedInput(x, 1, 3, 1, 1.0, 1, 1, 2);
        Check.same("1 1 2", cells(x, x.pool(third, 8, true)));
        TensorForge z = new TensorForge();
        int small = z.input(2, 3, 8, 1.0);
        for (int code : new int[] {-1, 12, Integer.MIN_VALUE, Integer.MAX_VALUE, 2, 5}) {
            Check.due(IAE, () -> z.pool(small, code, false));
            Check.due(IAE, () -> z.pool(small, code, true));
        }
        Check.due(IAE, () -> z.pool(-1, 0, true));
        Check.due(IAE, () -> z.pool(1, 0, true));
        Check.same("2 3 8", shape(z, z.pool(small, 8, true)));
        TensorForge y = full();
        Check.due(IAE, () -> y.pool(0, 2, true));
        Check.due(ISE, () -> y.pool(0, 1, true));
    }

    private static void promise11() {
        Check.part("promise 11");
        TensorForge x = new TensorForge();
        int in = fedInput(x, 1, 1, 5, 0.5, -128, -4, 0, 6, 127);
        int clamp = x.clamp(in, -3, 5);
        Check.due(9, () -> x.about(clamp, 0));
        Check.same("1 1 5", shape(x, clamp));
        Check.same("-3 -3 0 5 5", cells(x, clamp));
        Check.due(2.5, () -> x.result(4));
        Check.same("7 7 7 7 7", cells(x, x.clamp(in, 7, 7)));
        Check.same("-128 -128 -128 -128 -128", cells(x, x.clamp(in, -128, -128)));
        Check.same("-127 -4 0 6 127", cells(x, x.clamp(in, -127, 127)));
        int[][] wrong = {{1, 0}, {-129, 0}, {0, 128}, {128, 128}, {-129, -129}, {Integer.MIN_VALUE, Integer.MAX_VALUE}};
        for (int[] s : wrong) {
            Check.due(IAE, () -> x.clamp(in, s[0], s[1]));
        }
        Check.due(IAE, () -> x.clamp(-1, 0, 0));
        Check.due(IAE, () -> x.clamp(5, 0, 0));
        Check.due(5, () -> x.clamp(in, 127, 127));
        TensorForge y = full();
        Check.due(IAE, () -> y.clamp(0, 1, 0));
        Check.due(ISE, () -> y.clamp(0, 0, 1));
    }

    private static void promise12() {
        Check.part("promise 12");
        TensorForge x = new TensorForge();
        int in = fedInput(x, 1, 1, 5, 1.0, -128, -3, 1, 3, 127);
        int half = x.rescale(in, 2.0);
        Check.due(10, () -> x.about(half, 0));
        Check.same("1 1 5", shape(x, half));
        Check.same("-64 -2 1 2 64", cells(x, half));
        Check.due(128.0, () -> x.result(4));
        Check.same("-128 -12 4 12 127", cells(x, x.rescale(in, 0.25)));
        // A third: 127 / 3 is 42.33.
        Check.same("-43 -1 0 1 42", cells(x, x.rescale(in, 3.0)));
        // The ratio 29999 is good; -1 times it is cut.
        Check.same("-128 -128 127 127 127", cells(x, x.rescale(in, 1.0 / 29999.0)));
        promise12Rounding();
        // A ratio that is just below 1.0 becomes 1.0 as a fixed-point number.
        Check.same("-128 -3 1 3 127", cells(x, x.rescale(in, 1.0000000000000002)));
        Check.due(AE, () -> x.rescale(in, 1.0 / 30000.0));
        Check.due(AE, () -> x.rescale(in, Double.MIN_VALUE));
        for (double scale : WRONG_SCALES) {
            Check.due(IAE, () -> x.rescale(in, scale));
        }
        Check.due(IAE, () -> x.rescale(-1, 1.0));
        Check.due(IAE, () -> x.rescale(6, 1.0));
        int fine = x.input(1, 1, 1, 0.0000001);
        // 0.0000001 is not above itself.
        Check.due(AE, () -> x.rescale(fine, 1.0));
        Check.due(7, () -> x.rescale(fine, 0.999));
        int coarse = x.input(1, 1, 1, 30000.0);
        Check.due(AE, () -> x.rescale(coarse, 1.0));
        Check.due(9, () -> x.rescale(coarse, 1.0001));
        TensorForge y = full();
        Check.due(IAE, () -> y.rescale(0, 0.0));
        Check.due(AE, () -> y.rescale(0, 0.00001));
        Check.due(ISE, () -> y.rescale(0, 1.0));
    }

    /** Ratios so near to 1.5 that only how they are made whole numbers decides what 1 becomes. */
    private static void promise12Rounding() {
        double bit = 1.0 / 4294967296.0;
        double[][] dues = {{0.0, 2}, {1.5, 2}, {2.0, 2}, {2.1, 1}, {2.5, 1}, {4.0, 1}};
        for (double[] due : dues) {
            TensorForge x = new TensorForge();
            int in = fedInput(x, 1, 1, 2, 1.5 - due[0] * bit, 1, -1);
            int value = (int) due[1];
            Check.same(value + " " + -value, cells(x, x.rescale(in, 1.0)));
        }
    }

    private static void promise13() {
        Check.part("promise 13");
        TensorForge x = new TensorForge();
        x.input(2, 3, 4, 1.0);
        x.input(1, 1, 1, 1.0);
        Check.due(24, () -> x.output(0));
        Check.due(1, () -> x.output(1));
        Check.due(1, x::compile);
        Check.due(IAE, () -> x.output(2));
        Check.due(IAE, () -> x.output(-1));
        Check.due(IAE, () -> x.output(Integer.MAX_VALUE));
        // What threw left the output and the compiling alone.
        Check.due(1, x::peak);
        Check.due(1, () -> x.output(1));
        // The same output again undoes the compiling too.
        Check.due(ISE, x::peak);
        Check.due(ISE, () -> x.run(9));
        x.compile();
        Check.due(0, () -> x.about(0, 5));
        x.output(0);
        x.compile();
        Check.due(2, () -> x.about(0, 5));
        Check.due(0, () -> x.about(1, 5));
    }

    private static void promise14Smaller() {
        Check.part("promise 14, smaller");
        TensorForge x = new TensorForge();
        Check.due(ISE, x::compile);
        x.input(2, 2, 2, 1.0);
        Check.due(ISE, x::compile);
        x.reshape(0, 2, 2, 2);
        x.clamp(1, -128, 127);
        x.rescale(2, 1.0);
        x.reshape(3, 1, 4, 2);
        x.reshape(0, 1, 4, 2);
        x.reshape(5, 2, 2, 2);
        x.clamp(0, -128, 126);
        x.clamp(3, -128, 126);
        x.clamp(3, -127, 126);
        x.rescale(4, 0.5);
        x.rescale(5, 0.5);
        x.add(7, 8, 1.0);
        x.add(8, 7, 1.0);
        x.output(13);
        Check.due(3, x::compile);
        // A reshape back to the first shape is not a reshape to its input's shape.
        standsFor(x, 0, 0, 0, 0, 4, 4, 6, 7, 7, 9, 10, 10, 12, 12);
        TensorForge y = new TensorForge();
        y.input(2, 2, 2, 1.0);
        y.input(2, 2, 2, 1.0);
        y.add(0, 1, 1.0);
        y.add(1, 0, 1.0);
        y.add(0, 1, 2.0);
        y.concat(0, 1);
        y.concat(1, 0);
        y.concat(0, 1);
        y.pool(0, 0, false);
        y.pool(0, 6, false);
        y.pool(0, 0, true);
        y.pool(0, 0, true);
        y.pool(1, 0, true);
        y.add(0, 1, 1.0);
        y.output(7);
        Check.due(3, y::compile);
        standsFor(y, 0, 1, 2, 3, 4, 5, 6, 5, 8, 9, 10, 10, 12, 2);
        promise14SmallerWeights();
        promise14SmallerShapes();
    }

    private static void promise14SmallerShapes() {
        TensorForge x = new TensorForge();
        x.input(1, 2, 4, 1.0);
        x.reshape(0, 2, 1, 4);
        x.reshape(0, 2, 2, 2);
        x.reshape(0, 1, 4, 2);
        x.reshape(0, 1, 2, 4);
        x.reshape(1, 2, 1, 4);
        x.reshape(4, 2, 1, 4);
        x.clamp(1, 0, 1);
        Check.same("2 1 4", shape(x, 7));
        x.output(7);
        x.compile();
        standsFor(x, 0, 1, 2, 3, 0, 1, 1, 7);
    }

    private static void promise14SmallerWeights() {
        TensorForge x = new TensorForge();
        x.input(2, 2, 1, 1.0);
        x.windows(0, 12, false, 0, 1.0);
        x.windows(0, 0, true, 0, 1.0);
        x.windows(0, 18, false, 0, 1.0);
        x.windows(0, 12, false, 1, 1.0);
        x.windows(0, 24, false, 0, 1.0);
        x.windows(0, 12, false, 0, 2.0);
        x.windows(0, 12, false, 0, 1.0);
        x.dense(0, 1, 0, 1.0);
        x.dense(0, 2, 0, 1.0);
        x.dense(0, 1, 1, 1.0);
        x.dense(0, 1, 0, 1.0);
        x.weightScale(2.0);
        x.windows(0, 12, false, 0, 1.0);
        x.windows(0, 0, true, 0, 1.0);
        x.output(11);
        Check.due(2, x::compile);
        standsFor(x, 0, 1, 2, 3, 4, 5, 6, 1, 8, 9, 10, 8, 12, 13);
    }

    private static void promise14Fused() {
        Check.part("promise 14, fused");
        TensorForge x = new TensorForge();
        setWeights(x, 0, 3, 0, 0);
        fedInput(x, 1, 1, 1, 1.0, 20);
        x.windows(0, 12, false, 0, 1.0);
        x.clamp(1, -10, 10);
        x.windows(2, 0, true, 0, 1.0);
        x.clamp(3, -128, 127);
        x.clamp(4, 0, 25);
        x.dense(5, 1, 0, 1.0);
        x.clamp(6, 0, 60);
        x.output(7);
        Check.due(4, x::compile);
        // 4 stands for the fused 3.
        states(x, 2, 1, 2, 1, 1, 2, 1, 2);
        Check.due(60, () -> x.run(2));
        // An output is never fused, not even one with a clamp behind it.
        x.output(6);
        Check.due(4, x::compile);
        states(x, 2, 1, 2, 1, 1, 2, 2, 0);
        Check.due(75, () -> x.run(2));
        x.output(4);
        Check.due(3, x::compile);
        states(x, 2, 1, 2, 2, 2, 0, 0, 0);
        Check.due(30, () -> x.run(2));
        promise14NotFused();
    }

    private static void promise14NotFused() {
        TensorForge x = new TensorForge();
        x.input(1, 1, 2, 1.0);
        x.dense(0, 2, 0, 1.0);
        x.clamp(1, 0, 5);
        x.clamp(1, 0, 6);
        x.add(2, 3, 1.0);
        x.add(2, 2, 1.0);
        x.rescale(1, 0.5);
        x.add(2, 6, 1.0);
        x.clamp(1, 0, 5);
        x.add(2, 8, 1.0);
        x.pool(0, 0, false);
        x.clamp(10, 0, 5);
        // Two clamps have it as an input.
        x.output(4);
        Check.due(5, x::compile);
        states(x, 2, 2, 2, 2, 2, 0, 0, 0, 2, 0, 0, 0);
        // One clamp that is used twice, and an alike clamp that stands for it.
        x.output(5);
        Check.due(3, x::compile);
        states(x, 2, 1, 2, 0, 0, 2, 0, 0, 2, 2);
        // A clamp and a rescale.
        x.output(7);
        Check.due(5, x::compile);
        states(x, 2, 2, 2, 0, 0, 0, 2, 2);
        // Other kinds are not fused.
        x.output(11);
        Check.due(3, x::compile);
        states(x, 2, 0, 0, 0, 0, 0, 0, 0, 0, 0, 2, 2);
        TensorForge y = new TensorForge();
        y.input(1, 1, 2, 1.0);
        y.dense(0, 2, 0, 1.0);
        y.add(1, 1, 1.0);
        y.clamp(2, 0, 5);
        // An add has it twice.
        y.output(3);
        Check.due(4, y::compile);
        // Not a clamp.
        y.rescale(1, 0.5);
        y.output(4);
        Check.due(3, y::compile);
    }

    private static void promise14Plan() {
        Check.part("promise 14, plan");
        TensorForge x = new TensorForge();
        x.input(1, 1, 4, 1.0);
        x.input(2, 2, 2, 1.0);
        x.reshape(1, 1, 1, 8);
        x.dense(2, 4, 0, 1.0);
        x.add(0, 3, 1.0);
        x.concat(4, 4);
        x.output(5);
        Check.due(6, x::compile);
        // Lives: 0: 0 .. 4, 1: 1 .. 2, 2: 2 .. 3, 3: 3 .. 4, 4: 4 .. 5, 5: 5.
        // In the order 1, 2, 5 (8 cells), 0, 3, 4 (4 cells).
        plan(x, 1, 1, 0);
        plan(x, 2, 2, 8);
        plan(x, 5, 5, 0);
        plan(x, 0, 0, 16);
        plan(x, 3, 3, 0);
        plan(x, 4, 4, 8);
        Check.due(20, x::peak);
        // What a fused node reads lives until its clamp is done.
        TensorForge y = new TensorForge();
        y.input(1, 1, 4, 1.0);
        y.dense(0, 4, 0, 1.0);
        y.input(1, 1, 4, 1.0);
        y.clamp(1, 0, 9);
        y.add(2, 3, 1.0);
        y.output(4);
        Check.due(4, y::compile);
        plan(y, 0, 0, 0);
        plan(y, 2, 1, 4);
        plan(y, 3, 2, 8);
        plan(y, 4, 3, 0);
        Check.due(NSEE, () -> y.about(1, 6));
        Check.due(NSEE, () -> y.about(1, 7));
        Check.due(12, y::peak);
        promise14Gap();
    }

    private static void promise14Gap() {
        // 1 (8 cells) and 3 (6 cells) never live together, so 4 fits in the gap that 3 leaves below 0.
        TensorForge x = new TensorForge();
        x.input(1, 1, 1, 1.0);
        x.dense(0, 8, 0, 1.0);
        x.dense(1, 7, 0, 1.0);
        x.dense(2, 6, 0, 1.0);
        x.dense(3, 1, 0, 1.0);
        x.add(4, 0, 1.0);
        x.output(5);
        Check.due(6, x::compile);
        // 1: 0 .. 7 at steps 1, 2; 2: 8 .. 14 at 2, 3; 3: 0 .. 5 at 3, 4; 0 lives at 0 .. 5: place 15;
        // 4 lives at 4, 5: behind 3, place 6; 5 lives at 5: place 0.
        plan(x, 1, 1, 0);
        plan(x, 2, 2, 8);
        plan(x, 3, 3, 0);
        plan(x, 0, 0, 15);
        plan(x, 4, 4, 6);
        plan(x, 5, 5, 0);
        Check.due(16, x::peak);
    }

    private static void promise15() {
        Check.part("promise 15");
        TensorForge x = new TensorForge();
        x.input(1, 3, 4, 0.5);
        x.clamp(0, -100, 100);
        Check.due(8, () -> x.feed(0, 0, bytes(1, -1, 2, -2, 127, -128, 0, 8)));
        Check.due(4, () -> x.feed(0, 8, bytes(9, 10, 11, 12, 99, 99, 99, 99)));
        Check.same("1 -1 2 -2 127 -128 0 8 9 10 11 12", cells(x, 0));
        Check.due(1, () -> x.feed(0, 11, bytes(-12, 99)));
        Check.due(8, () -> x.feed(0, 3, bytes(20, 21, 22, 23, 24, 25, 26, 27)));
        for (int from : new int[] {-1, 12, Integer.MIN_VALUE, Integer.MAX_VALUE}) {
            Check.due(IAE, () -> x.feed(0, from, 1L));
        }
        Check.due(IAE, () -> x.feed(1, 0, 1L));
        Check.due(IAE, () -> x.feed(2, 0, 1L));
        Check.due(IAE, () -> x.feed(-1, 0, 1L));
        // Neither the arena nor the result changes before the next run.
        Check.due(1, () -> x.arena(0));
        Check.due(-1.0, () -> x.result(3));
        Check.due(12, x::peak);
        Check.due(1 - 1 + 2 + 20 + 21 + 22 + 23 + 24 + 25 + 26 + 27 - 12, () -> x.run(12));
        Check.due(-6.0, () -> x.result(11));
        Check.due(10.0, () -> x.result(3));
    }

    private static void promise16() {
        Check.part("promise 16");
        TensorForge x = new TensorForge();
        Check.due(IAE, () -> x.run(-1));
        Check.due(ISE, () -> x.run(0));
        fedInput(x, 1, 1, 3, 1.0, 5, 6, -20);
        x.output(0);
        Check.due(ISE, () -> x.run(100));
        x.compile();
        Check.due(IAE, () -> x.run(-1));
        Check.due(IAE, () -> x.run(Integer.MIN_VALUE));
        Check.due(UOE, () -> x.run(0));
        Check.due(UOE, () -> x.run(2));
        Check.due(NSEE, () -> x.arena(0));
        Check.due(-9, () -> x.run(3));
        Check.due(-9, () -> x.run(Integer.MAX_VALUE));
        x.clamp(0, 0, 3);
        Check.due(ISE, () -> x.run(100));
        Check.due(ISE, () -> x.run(0));
        Check.due(1, x::compile);
        Check.due(-9, () -> x.run(3));
        Check.due(IAE, () -> x.input(9, 9, 9, 1.0));
        Check.due(-9, () -> x.run(3));
        x.output(1);
        Check.due(ISE, () -> x.run(100));
        Check.due(2, x::compile);
        Check.due(UOE, () -> x.run(5));
        // The run that threw left the one before it.
        Check.due(-20, () -> x.arena(2));
        Check.due(-20.0, () -> x.result(2));
        Check.due(6, () -> x.run(6));
        Check.due(6, () -> x.run(6));
    }

    private static void promise17() {
        Check.part("promise 17");
        TensorForge x = new TensorForge();
        fedInput(x, 1, 1, 8, 1.0, 1, 2, 3, 4, 5, 6, 7, 8);
        x.dense(0, 2, 0, 1.0);
        x.add(1, 1, 1.0);
        setWeights(x, 16, 1, 2);
        x.output(2);
        x.compile();
        Check.due(NSEE, () -> x.arena(0));
        Check.due(96, () -> x.run(50));
        // 0 at 0 .. 7, 1 at 8 and 9, then 2 over the input, which is not read any more.
        int[] due = {32, 64, 3, 4, 5, 6, 7, 8, 16, 32};
        for (int i = 0; i < due.length; i++) {
            int cell = i;
            Check.due(due[i], () -> x.arena(cell));
        }
        for (int i : new int[] {-1, 10, 49, Integer.MIN_VALUE, Integer.MAX_VALUE}) {
            Check.due(NSEE, () -> x.arena(i));
        }
        // It stays what it was until the next run, whatever is made, fed or compiled.
        x.input(1, 1, 1, 1.0);
        x.feed(0, 0, bytes(9));
        x.feed(3, 0, bytes(77));
        x.weights(16, bytes(5, 5));
        x.output(3);
        Check.due(32, () -> x.arena(0));
        x.compile();
        Check.due(32, () -> x.arena(1 - 1));
        Check.due(32, () -> x.arena(9));
        Check.due(77, () -> x.run(1));
        Check.due(77, () -> x.arena(0));
        Check.due(NSEE, () -> x.arena(1));
        promise17Cleared();
    }

    private static void promise17Cleared() {
        // Nothing of an earlier, larger run is left below the peak of a later one.
        TensorForge x = new TensorForge();
        for (int i = 0; i < 3; i++) {
            fedInput(x, 1, 1, 8, 1.0, 1, 1, 1, 1, 1, 1, 1, 1);
        }
        x.add(0, 1, 1.0);
        x.add(2, 3, 1.0);
        x.output(4);
        x.compile();
        x.run(100);
        Check.due(32, x::peak);
        x.input(1, 1, 3, 1.0);
        x.dense(5, 2, 0, 1.0);
        x.dense(6, 1, 0, 1.0);
        x.concat(6, 7);
        x.output(8);
        x.compile();
        Check.due(0, () -> x.run(100));
        for (int i = 0; i < x.peak(); i++) {
            int cell = i;
            Check.due(0, () -> x.arena(cell));
        }
    }

    private static void promise18() {
        Check.part("promise 18");
        TensorForge x = new TensorForge();
        fedInput(x, 1, 1, 3, 0.1, 3, -7, 0);
        x.input(1, 1, 1, 1.0);
        x.output(0);
        Check.due(NSEE, () -> x.result(0));
        x.compile();
        Check.due(NSEE, () -> x.result(0));
        x.run(3);
        Check.due(3 * 0.1, () -> x.result(0));
        Check.due(-7 * 0.1, () -> x.result(1));
        Check.due(0.0, () -> x.result(2));
        for (int i : new int[] {-1, 3, Integer.MIN_VALUE, Integer.MAX_VALUE}) {
            Check.due(NSEE, () -> x.result(i));
        }
        // The output of that time, whatever the output is now.
        x.output(1);
        Check.due(-7 * 0.1, () -> x.result(1));
        x.compile();
        Check.due(-7 * 0.1, () -> x.result(1));
        x.run(1);
        Check.due(0.0, () -> x.result(0));
        Check.due(NSEE, () -> x.result(1));
        // An output that stands for an earlier node has that one's cells.
        x.clamp(0, -128, 127);
        x.reshape(2, 1, 3, 1);
        x.rescale(3, 0.2);
        x.output(2);
        x.compile();
        x.run(3);
        Check.due(-7 * 0.1, () -> x.result(1));
        x.output(4);
        x.compile();
        x.run(100);
        // 1.5 is 2, -3.5 is -4.
        Check.due(2 * 0.2, () -> x.result(0));
        Check.due(-4 * 0.2, () -> x.result(1));
        // More cells in the arena than in the result.
        Check.due(NSEE, () -> x.result(3));
        Check.due(6, x::peak);
    }

    private static void promise19() {
        Check.part("promise 19");
        TensorForge x = new TensorForge();
        x.input(1, 2, 3, 1.0);
        x.clamp(0, -128, 127);
        x.dense(1, 4, 0, 1.0);
        x.clamp(2, 0, 9);
        x.clamp(0, 0, 9);
        for (int what : new int[] {-1, 8, Integer.MIN_VALUE, Integer.MAX_VALUE}) {
            Check.due(IAE, () -> x.about(0, what));
        }
        for (int node : new int[] {-1, 5, Integer.MIN_VALUE, Integer.MAX_VALUE}) {
            Check.due(IAE, () -> x.about(node, 0));
            Check.due(IAE, () -> x.about(node, 7));
        }
        Check.due(0, () -> x.about(0, 0));
        Check.due(1, () -> x.about(0, 1));
        Check.due(2, () -> x.about(0, 2));
        Check.due(3, () -> x.about(0, 3));
        Check.due(4, () -> x.about(3, 3));
        for (int what = 4; what <= 7; what++) {
            int w = what;
            Check.due(ISE, () -> x.about(0, w));
        }
        x.output(3);
        x.compile();
        Check.due(IAE, () -> x.about(0, 8));
        standsFor(x, 0, 0, 2, 3, 4);
        states(x, 2, 2, 1, 2, 0);
        plan(x, 0, 0, 0);
        plan(x, 1, 0, 0);
        plan(x, 3, 1, 6);
        for (int node : new int[] {2, 4}) {
            Check.due(NSEE, () -> x.about(node, 6));
            Check.due(NSEE, () -> x.about(node, 7));
        }
        x.input(1, 1, 1, 1.0);
        for (int what = 4; what <= 7; what++) {
            int w = what;
            Check.due(ISE, () -> x.about(2, w));
        }
        Check.due(9, () -> x.about(4, 0));
    }

    private static void promise20() {
        Check.part("promise 20");
        TensorForge x = new TensorForge();
        Check.due(ISE, x::peak);
        x.input(4, 4, 8, 1.0);
        x.input(4, 4, 8, 1.0);
        x.output(0);
        Check.due(ISE, x::peak);
        x.compile();
        Check.due(128, x::peak);
        x.add(0, 1, 1.0);
        Check.due(ISE, x::peak);
        x.output(2);
        Check.due(ISE, x::peak);
        x.compile();
        Check.due(384, x::peak);
        x.run(384);
        Check.due(384, x::peak);
        Check.due(IAE, () -> x.output(3));
        Check.due(384, x::peak);
    }
}
