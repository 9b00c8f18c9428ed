import java.util.Arrays;
import java.util.NoSuchElementException;

/**
 * A compiler for small models of eight-bit tensors: a graph is built and checked, made smaller,
 * its tensors are planned into one arena, and it is run there with fixed-point scaling.
 */
public final class TensorForge {
    private static final int MOST_NODES = 14;
    private static final int MOST_LENGTH = 4;
    private static final int MOST_CHANNELS = 8;
    private static final int MOST_CELLS = MOST_LENGTH * MOST_LENGTH * MOST_CHANNELS;
    private static final int ALL_WEIGHTS = 512;
    private static final int WINDOW_CODES = 12;
    private static final int BYTES_IN_LONG = 8;
    private static final int LOWEST = -128;
    private static final int HIGHEST = 127;
    private static final int BIAS_FACTOR = 16;
    private static final int NONE = -1;

    private static final int INPUT = 0;
    private static final int CONV = 1;
    private static final int DEPTHWISE = 2;
    private static final int DENSE = 3;
    private static final int ADD = 4;
    private static final int CONCAT = 5;
    private static final int RESHAPE = 6;
    private static final int MAX = 7;
    private static final int AVERAGE = 8;
    private static final int CLAMP = 9;
    private static final int RESCALE = 10;

    private static final int NOT_NEEDED = 0;
    private static final int FUSED = 1;
    private static final int PLACED = 2;

    private static final int ABOUT_KIND = 0;
    private static final int ABOUT_H = 1;
    private static final int ABOUT_W = 2;
    private static final int ABOUT_C = 3;
    private static final int ABOUT_STANDS_FOR = 4;
    private static final int ABOUT_STATE = 5;
    private static final int ABOUT_STEP = 6;
    private static final int ABOUT_PLACE = 7;

    private final Graph graph;
    private final Machine machine;
    private double currentWeightScale;
    private int outputNode;
    private boolean compiled;

    public TensorForge() {
        graph = new Graph();
        machine = new Machine();
        currentWeightScale = 1.0;
        outputNode = NONE;
        compiled = false;
    }

    public int weights(int offset, long bytes) throws IllegalArgumentException {
        requireBetween(offset, 0, ALL_WEIGHTS - 1);
        return spread(bytes, machine.weightCells, offset);
    }

    public void weightScale(double scale) throws IllegalArgumentException {
        requireScale(scale);
        currentWeightScale = scale;
    }

    public int input(int h, int w, int c, double scale)
            throws IllegalArgumentException, IllegalStateException {
        requireShape(h, w, c);
        requireScale(scale);
        requireRoom();
        return keep(new Node(INPUT, NONE, NONE, h, w, c, scale));
    }

    public int windows(int node, int code, boolean depthwise, int offset, double scale)
            throws IllegalArgumentException, ArithmeticException, IllegalStateException {
        requireNode(node);
        requireWindowsCode(code, depthwise);
        requireScale(scale);
        Node source = graph.nodes[node];
        int windowCode = code % WINDOW_CODES;
        requireWindowFits(source, windowCode);
        int k = Window.sizeOf(windowCode);
        int channels = depthwise ? source.c : code / WINDOW_CODES;
        int weightsPerChannel = k * k * (depthwise ? 1 : source.c);
        requireWeights(offset, channels, weightsPerChannel);
        double ratio = weightedRatio(source, scale);
        requireGood(ratio);
        requireRoom();
        int h = Window.placesOf(windowCode, source.h);
        int w = Window.placesOf(windowCode, source.w);
        Node made = new Node(depthwise ? DEPTHWISE : CONV, node, NONE, h, w, channels, scale);
        made.code = windowCode;
        made.weigh(offset, currentWeightScale, ratio);
        return keep(made);
    }

    public int dense(int node, int d, int offset, double scale)
            throws IllegalArgumentException, ArithmeticException, IllegalStateException {
        requireNode(node);
        requireBetween(d, 1, MOST_CHANNELS);
        requireScale(scale);
        Node source = graph.nodes[node];
        requireWeights(offset, d, source.cells);
        double ratio = weightedRatio(source, scale);
        requireGood(ratio);
        requireRoom();
        Node made = new Node(DENSE, node, NONE, 1, 1, d, scale);
        made.weigh(offset, currentWeightScale, ratio);
        return keep(made);
    }

    public int add(int one, int other, double scale)
            throws IllegalArgumentException, ArithmeticException, IllegalStateException {
        requireNode(one);
        requireNode(other);
        requireScale(scale);
        Node first = graph.nodes[one];
        Node second = graph.nodes[other];
        require(second.hasShape(first.h, first.w, first.c));
        double ratio = first.scale / scale;
        double otherRatio = second.scale / scale;
        requireGood(ratio);
        requireGood(otherRatio);
        requireRoom();
        Node made = new Node(ADD, one, other, first.h, first.w, first.c, scale);
        made.ratio = ratio;
        made.otherRatio = otherRatio;
        return keep(made);
    }

    public int concat(int one, int other) throws IllegalArgumentException, IllegalStateException {
        requireNode(one);
        requireNode(other);
        Node first = graph.nodes[one];
        Node second = graph.nodes[other];
        require(first.h == second.h && first.w == second.w && first.scale == second.scale);
        int channels = first.c + second.c;
        requireBetween(channels, 1, MOST_CHANNELS);
        requireRoom();
        return keep(new Node(CONCAT, one, other, first.h, first.w, channels, first.scale));
    }

    public int reshape(int node, int h, int w, int c)
            throws IllegalArgumentException, IllegalStateException {
        requireNode(node);
        requireShape(h, w, c);
        Node source = graph.nodes[node];
        require(h * w * c == source.cells);
        requireRoom();
        return keep(new Node(RESHAPE, node, NONE, h, w, c, source.scale));
    }

    public int pool(int node, int code, boolean average)
            throws IllegalArgumentException, IllegalStateException {
        requireNode(node);
        requireBetween(code, 0, WINDOW_CODES - 1);
        Node source = graph.nodes[node];
        requireWindowFits(source, code);
        requireRoom();
        int h = Window.placesOf(code, source.h);
        int w = Window.placesOf(code, source.w);
        Node made = new Node(average ? AVERAGE : MAX, node, NONE, h, w, source.c, source.scale);
        made.code = code;
        return keep(made);
    }

    public int clamp(int node, int low, int high)
            throws IllegalArgumentException, IllegalStateException {
        requireNode(node);
        requireBetween(high, LOWEST, HIGHEST);
        requireBetween(low, LOWEST, high);
        requireRoom();
        Node source = graph.nodes[node];
        Node made = new Node(CLAMP, node, NONE, source.h, source.w, source.c, source.scale);
        made.low = low;
        made.high = high;
        return keep(made);
    }

    public int rescale(int node, double scale)
            throws IllegalArgumentException, ArithmeticException, IllegalStateException {
        requireNode(node);
        requireScale(scale);
        Node source = graph.nodes[node];
        double ratio = source.scale / scale;
        requireGood(ratio);
        requireRoom();
        Node made = new Node(RESCALE, node, NONE, source.h, source.w, source.c, scale);
        made.ratio = ratio;
        return keep(made);
    }

    public int output(int node) throws IllegalArgumentException {
        requireNode(node);
        outputNode = node;
        compiled = false;
        return graph.nodes[node].cells;
    }

    public int compile() throws IllegalStateException {
        if (outputNode == NONE) {
            throw new IllegalStateException("there is no output");
        }
        graph.plan(outputNode);
        compiled = true;
        return graph.steps;
    }

    public int feed(int node, int from, long bytes) throws IllegalArgumentException {
        requireNode(node);
        Node fedNode = graph.nodes[node];
        require(fedNode.kind == INPUT);
        requireBetween(from, 0, fedNode.cells - 1);
        return spread(bytes, fedNode.fed, from);
    }

    public int run(int arena)
            throws IllegalArgumentException, IllegalStateException, UnsupportedOperationException {
        require(arena >= 0);
        requireCompiled();
        if (arena < graph.peak) {
            throw new UnsupportedOperationException("the arena is below the peak");
        }
        return machine.perform(graph, outputNode);
    }

    public int arena(int i) throws NoSuchElementException {
        requirePresent(i >= 0 && i < machine.arenaCells);
        return machine.cells[i];
    }

    public double result(int i) throws NoSuchElementException {
        requirePresent(i >= 0 && i < machine.resultCells);
        return machine.cells[machine.resultPlace + i] * machine.resultScale;
    }

    public int about(int node, int what)
            throws IllegalArgumentException, IllegalStateException, NoSuchElementException {
        requireNode(node);
        requireBetween(what, ABOUT_KIND, ABOUT_PLACE);
        return what < ABOUT_STANDS_FOR ? aboutMade(graph.nodes[node], what) : aboutPlanned(node, what);
    }

    public int peak() throws IllegalStateException {
        requireCompiled();
        return graph.peak;
    }

    private static int aboutMade(Node node, int what) {
        switch (what) {
            case ABOUT_H:
                return node.h;
            case ABOUT_W:
                return node.w;
            case ABOUT_C:
                return node.c;
            default:
                return node.kind;
        }
    }

    private int aboutPlanned(int node, int what) {
        requireCompiled();
        int meant = graph.standsFor[node];
        if (what == ABOUT_STANDS_FOR) {
            return meant;
        }
        if (what == ABOUT_STATE) {
            return graph.state[meant];
        }
        requirePresent(graph.state[meant] == PLACED);
        return what == ABOUT_STEP ? graph.step[meant] : graph.place[meant];
    }

    private int keep(Node made) {
        compiled = false;
        return graph.append(made);
    }

    private double weightedRatio(Node source, double scale) {
        return source.scale * currentWeightScale / scale;
    }

    private static int spread(long bytes, int[] row, int from) {
        int set = Math.min(BYTES_IN_LONG, row.length - from);
        for (int i = 0; i < set; i++) {
            row[from + i] = (byte) (bytes >> 8 * (BYTES_IN_LONG - 1 - i));
        }
        return set;
    }

    private static void require(boolean holds) {
        if (!holds) {
            throw new IllegalArgumentException("an argument is out of range or does not go with the others");
        }
    }

    private static void requireBetween(int value, int least, int most) {
        require(value >= least && value <= most);
    }

    private void requireNode(int node) {
        requireBetween(node, 0, graph.count - 1);
    }

    private static void requireShape(int h, int w, int c) {
        requireBetween(h, 1, MOST_LENGTH);
        requireBetween(w, 1, MOST_LENGTH);
        requireBetween(c, 1, MOST_CHANNELS);
    }

    private static void requireScale(double scale) {
        // Asked as "is it inside" so that a scale that is no number at all is refused too.
        require(scale > 0.0 && scale <= 1000000.0);
    }

    private static void requireWindowsCode(int code, boolean depthwise) {
        int least = depthwise ? 0 : WINDOW_CODES;
        int most = depthwise ? WINDOW_CODES - 1 : WINDOW_CODES * (MOST_CHANNELS + 1) - 1;
        requireBetween(code, least, most);
    }

    private static void requireWindowFits(Node source, int windowCode) {
        require(Window.fits(windowCode, source.h) && Window.fits(windowCode, source.w));
    }

    private static void requireWeights(int offset, int channels, int weightsPerChannel) {
        int biases = channels;
        requireBetween(offset, 0, ALL_WEIGHTS - channels * weightsPerChannel - biases);
    }

    private static void requireGood(double ratio) {
        if (!Scaler.isGood(ratio)) {
            throw new ArithmeticException("a ratio is not good");
        }
    }

    private void requireRoom() {
        if (graph.count >= MOST_NODES) {
            throw new IllegalStateException("all nodes are there");
        }
    }

    private void requireCompiled() {
        if (!compiled) {
            throw new IllegalStateException("not compiled");
        }
    }

    private static void requirePresent(boolean present) {
        if (!present) {
            throw new NoSuchElementException("no such cell, step or place");
        }
    }

    /** What was said of a node when it was made; what its kind does not have stays 0. */
    private static final class Node {
        final int kind;
        final int one;
        final int other;
        final int h;
        final int w;
        final int c;
        final int cells;
        final double scale;
        final int[] fed;
        int code;
        int offset;
        double weightScale;
        int low;
        int high;
        double ratio;
        double otherRatio;

        Node(int kind, int one, int other, int h, int w, int c, double scale) {
            this.kind = kind;
            this.one = one;
            this.other = other;
            this.h = h;
            this.w = w;
            this.c = c;
            this.scale = scale;
            cells = h * w * c;
            fed = new int[kind == INPUT ? cells : 0];
        }

        void weigh(int weightsFrom, double scaleOfWeights, double ratioOfSums) {
            offset = weightsFrom;
            weightScale = scaleOfWeights;
            ratio = ratioOfSums;
        }

        boolean hasShape(int otherH, int otherW, int otherC) {
            return h == otherH && w == otherW && c == otherC;
        }

        boolean hasWeights() {
            return kind == CONV || kind == DEPTHWISE || kind == DENSE;
        }

        /** Whether all but the inputs is alike. */
        boolean saysTheSame(Node that) {
            return kind == that.kind && hasShape(that.h, that.w, that.c) && scale == that.scale
                    && code == that.code && offset == that.offset && weightScale == that.weightScale
                    && low == that.low && high == that.high;
        }
    }

    /** A window of a code, laid over a tensor and moved from place to place. */
    private static final class Window {
        int k;
        int top;
        int left;
        int firstRow;
        int endRow;
        int firstColumn;
        int endColumn;
        private int step;
        private int rows;
        private int columns;
        private int rowsBefore;
        private int columnsBefore;

        static int sizeOf(int code) {
            return 1 + code % 3;
        }

        static int stepOf(int code) {
            return 1 + code / 3 % 2;
        }

        static boolean isSame(int code) {
            return code >= 6;
        }

        static boolean fits(int code, int length) {
            return isSame(code) || length >= sizeOf(code);
        }

        static int placesOf(int code, int length) {
            int way = isSame(code) ? length - 1 : length - sizeOf(code);
            return 1 + (stepOf(code) == 2 ? way / 2 : way);
        }

        void lay(Node node, Node over) {
            k = sizeOf(node.code);
            step = stepOf(node.code);
            rows = over.h;
            columns = over.w;
            rowsBefore = before(node.h, over.h);
            columnsBefore = before(node.w, over.w);
        }

        private int before(int places, int length) {
            // Where windows are not SAME, all of them lie inside: nothing is missing, and this is 0.
            int missing = (places - 1) * step + k - length;
            return Math.max(missing, 0) / 2;
        }

        void move(int y, int x) {
            top = y * step - rowsBefore;
            left = x * step - columnsBefore;
            firstRow = Math.max(top, 0);
            endRow = Math.min(top + k, rows);
            firstColumn = Math.max(left, 0);
            endColumn = Math.min(left + k, columns);
        }
    }

    /** A ratio as a whole number over a power of two, so that sums are scaled without doubles. */
    private static final class Scaler {
        private static final long ONE = 2147483648L;
        private static final long HALF = 1073741824L;
        private static final int ONE_BITS = 31;
        /** No good ratio is doubled or halved more often. */
        private static final int MOST_DOUBLINGS = 31;

        private long multiplier;
        private int shift;

        static boolean isGood(double ratio) {
            return ratio > 0.0000001 && ratio < 30000.0;
        }

        void take(double ratio) {
            double r = ratio;
            int e = 0;
            while (r >= 1.0 && e < MOST_DOUBLINGS) {
                r = r / 2.0;
                e++;
            }
            while (r < 0.5 && e > -MOST_DOUBLINGS) {
                r = r * 2.0;
                e--;
            }
            multiplier = (long) (r * 2147483648.0 + 0.5);
            if (multiplier == ONE) {
                multiplier = HALF;
                e++;
            }
            shift = ONE_BITS - e;
        }

        long scaled(int sum) {
            long half = 1L << (shift - 1);
            long size = (Math.abs((long) sum) * multiplier + half) >> shift;
            return sum < 0 ? -size : size;
        }
    }

    /**
     * The nodes, and since they were planned what each one stands for, whether and when it is done,
     * and where in the arena.
     */
    private static final class Graph {
        final Node[] nodes;
        final int[] standsFor;
        final int[] state;
        final int[] step;
        final int[] place;
        int count;
        int steps;
        int peak;
        private final int[] lastStep;

        Graph() {
            nodes = new Node[MOST_NODES];
            standsFor = new int[MOST_NODES];
            state = new int[MOST_NODES];
            step = new int[MOST_NODES];
            place = new int[MOST_NODES];
            lastStep = new int[MOST_NODES];
        }

        int append(Node made) {
            int number = count;
            nodes[number] = made;
            count++;
            return number;
        }

        void plan(int output) {
            makeSmaller();
            int meantOutput = standsFor[output];
            markNeeded(meantOutput);
            fuse(meantOutput);
            countSteps();
            findLives(meantOutput);
            givePlaces();
        }

        int meant(int input) {
            return input == NONE ? NONE : standsFor[input];
        }

        int placeMeant(int input) {
            return place[standsFor[input]];
        }

        /** The fused node whose work a node does beside its own, or NONE. */
        int fusedInto(int node) {
            int source = meant(nodes[node].one);
            return source != NONE && state[source] == FUSED ? source : NONE;
        }

        private void makeSmaller() {
            for (int node = 0; node < count; node++) {
                standsFor[node] = changesNothing(nodes[node]) ? meant(nodes[node].one) : firstAlike(node);
            }
        }

        private boolean changesNothing(Node node) {
            if (node.one == NONE) {
                return false;
            }
            Node source = nodes[standsFor[node.one]];
            switch (node.kind) {
                case RESHAPE:
                    return node.hasShape(source.h, source.w, source.c);
                case CLAMP:
                    return node.low == LOWEST && node.high == HIGHEST;
                case RESCALE:
                    return node.scale == source.scale;
                default:
                    return false;
            }
        }

        private int firstAlike(int node) {
            if (nodes[node].kind == INPUT) {
                return node;
            }
            for (int earlier = 0; earlier < node; earlier++) {
                if (standsFor[earlier] == earlier && alike(earlier, node)) {
                    return earlier;
                }
            }
            return node;
        }

        private boolean alike(int earlier, int node) {
            Node a = nodes[earlier];
            Node b = nodes[node];
            return a.saysTheSame(b) && meant(a.one) == meant(b.one) && meant(a.other) == meant(b.other);
        }

        private void markNeeded(int output) {
            Arrays.fill(state, NOT_NEEDED);
            state[output] = PLACED;
            // Inputs are earlier nodes, so going backwards meets every node after all that need it.
            for (int node = output; node >= 0; node--) {
                if (state[node] == PLACED) {
                    need(nodes[node].one);
                    need(nodes[node].other);
                }
            }
        }

        private void need(int input) {
            if (input != NONE) {
                state[standsFor[input]] = PLACED;
            }
        }

        private void fuse(int output) {
            for (int node = 0; node < count; node++) {
                if (state[node] == PLACED && node != output && nodes[node].hasWeights() && feedsOneClamp(node)) {
                    state[node] = FUSED;
                }
            }
        }

        private boolean feedsOneClamp(int node) {
            int uses = 0;
            int clampUses = 0;
            for (int user = node + 1; user < count; user++) {
                if (state[user] != NOT_NEEDED) {
                    int times = timesUsed(nodes[user], node);
                    uses += times;
                    clampUses += nodes[user].kind == CLAMP ? times : 0;
                }
            }
            return uses == 1 && clampUses == 1;
        }

        private int timesUsed(Node user, int node) {
            return (meant(user.one) == node ? 1 : 0) + (meant(user.other) == node ? 1 : 0);
        }

        private void countSteps() {
            steps = 0;
            for (int node = 0; node < count; node++) {
                if (state[node] == PLACED) {
                    step[node] = steps;
                    steps++;
                }
            }
        }

        private void findLives(int output) {
            for (int node = 0; node < count; node++) {
                if (state[node] == PLACED) {
                    lastStep[node] = step[node];
                    int fused = fusedInto(node);
                    Node reader = nodes[fused == NONE ? node : fused];
                    keepAlive(reader.one, step[node]);
                    keepAlive(reader.other, step[node]);
                }
            }
            lastStep[output] = steps - 1;
        }

        private void keepAlive(int input, int until) {
            if (input != NONE) {
                // Steps rise with the nodes, so the latest reader is also the last one to set this.
                lastStep[standsFor[input]] = until;
            }
        }

        private void givePlaces() {
            peak = 0;
            Arrays.fill(place, NONE);
            for (int i = 0; i < steps; i++) {
                int node = largestWithoutPlace();
                if (node != NONE) {
                    place[node] = leastFreePlace(node);
                    peak = Math.max(peak, place[node] + nodes[node].cells);
                }
            }
        }

        private int largestWithoutPlace() {
            int largest = NONE;
            for (int node = 0; node < count; node++) {
                boolean waits = state[node] == PLACED && place[node] == NONE;
                if (waits && (largest == NONE || nodes[node].cells > nodes[largest].cells)) {
                    largest = node;
                }
            }
            return largest;
        }

        private int leastFreePlace(int node) {
            int tried = 0;
            // Each try jumps behind another node, so as many tries as there are nodes are enough.
            for (int tries = 0; tries < MOST_NODES; tries++) {
                int hit = nodeInTheWay(node, tried);
                if (hit == NONE) {
                    return tried;
                }
                tried = place[hit] + nodes[hit].cells;
            }
            return tried;
        }

        private int nodeInTheWay(int node, int tried) {
            for (int there = 0; there < count; there++) {
                if (place[there] != NONE && liveTogether(node, there)
                        && tried < place[there] + nodes[there].cells
                        && place[there] < tried + nodes[node].cells) {
                    return there;
                }
            }
            return NONE;
        }

        private boolean liveTogether(int a, int b) {
            return step[a] <= lastStep[b] && step[b] <= lastStep[a];
        }
    }

    /** Does the placed nodes in the arena and keeps what the latest run left there. */
    private static final class Machine {
        final int[] weightCells;
        final int[] cells;
        int arenaCells;
        int resultPlace;
        int resultCells;
        double resultScale;
        private final Window window;
        private final Scaler scaler;
        private final Scaler otherScaler;

        Machine() {
            weightCells = new int[ALL_WEIGHTS];
            cells = new int[MOST_NODES * MOST_CELLS];
            window = new Window();
            scaler = new Scaler();
            otherScaler = new Scaler();
        }

        int perform(Graph graph, int output) {
            Arrays.fill(cells, 0);
            int meantOutput = graph.meant(output);
            for (int node = 0; node <= meantOutput; node++) {
                if (graph.state[node] == PLACED) {
                    doStep(graph, node);
                }
            }
            arenaCells = graph.peak;
            resultPlace = graph.place[meantOutput];
            resultCells = graph.nodes[meantOutput].cells;
            resultScale = graph.nodes[meantOutput].scale;
            return sumOfResult();
        }

        private int sumOfResult() {
            int sum = 0;
            for (int i = 0; i < resultCells; i++) {
                sum += cells[resultPlace + i];
            }
            return sum;
        }

        private void doStep(Graph graph, int node) {
            int to = graph.place[node];
            int fused = graph.fusedInto(node);
            if (fused == NONE) {
                compute(graph, graph.nodes[node], to);
            } else {
                compute(graph, graph.nodes[fused], to);
                hold(graph.nodes[node], to, to);
            }
        }

        private void compute(Graph graph, Node node, int to) {
            if (node.one == NONE) {
                System.arraycopy(node.fed, 0, cells, to, node.cells);
                return;
            }
            Node source = graph.nodes[node.one];
            int from = graph.placeMeant(node.one);
            switch (node.kind) {
                case DENSE:
                    connect(node, source, from, to);
                    break;
                case ADD:
                    addUp(node, from, graph.placeMeant(node.other), to);
                    break;
                case CONCAT:
                    join(node, source, from, graph.placeMeant(node.other), to);
                    break;
                case RESHAPE:
                    System.arraycopy(cells, from, cells, to, node.cells);
                    break;
                case CLAMP:
                    hold(node, from, to);
                    break;
                case RESCALE:
                    changeScale(node, from, to);
                    break;
                default:
                    slide(node, source, from, to);
                    break;
            }
        }

        private void slide(Node node, Node source, int from, int to) {
            window.lay(node, source);
            if (node.hasWeights()) {
                scaler.take(node.ratio);
            }
            int at = to;
            for (int y = 0; y < node.h; y++) {
                for (int x = 0; x < node.w; x++) {
                    window.move(y, x);
                    for (int channel = 0; channel < node.c; channel++) {
                        cells[at] = ofWindow(node, source, from, channel);
                        at++;
                    }
                }
            }
        }

        private int ofWindow(Node node, Node source, int from, int channel) {
            int taps = window.k * window.k;
            int sum;
            switch (node.kind) {
                case CONV:
                    sum = bias(node, taps * source.c, channel) + sumAllChannels(node, source, from, channel);
                    return cut(scaler.scaled(sum));
                case DEPTHWISE:
                    sum = bias(node, taps, channel) + sumOneChannel(node, source, from, channel);
                    return cut(scaler.scaled(sum));
                case MAX:
                    return greatest(source, from + channel);
                default:
                    return average(source, from + channel);
            }
        }

        private int sumAllChannels(Node node, Node source, int from, int channel) {
            int k = window.k;
            int depth = source.c;
            int sum = 0;
            for (int row = window.firstRow; row < window.endRow; row++) {
                for (int column = window.firstColumn; column < window.endColumn; column++) {
                    int cell = from + (row * source.w + column) * depth;
                    int tap = (channel * k + row - window.top) * k + column - window.left;
                    int weight = node.offset + tap * depth;
                    for (int i = 0; i < depth; i++) {
                        sum += cells[cell + i] * weightCells[weight + i];
                    }
                }
            }
            return sum;
        }

        private int sumOneChannel(Node node, Node source, int from, int channel) {
            int k = window.k;
            int sum = 0;
            for (int row = window.firstRow; row < window.endRow; row++) {
                for (int column = window.firstColumn; column < window.endColumn; column++) {
                    int cell = from + (row * source.w + column) * source.c + channel;
                    int tap = (channel * k + row - window.top) * k + column - window.left;
                    sum += cells[cell] * weightCells[node.offset + tap];
                }
            }
            return sum;
        }

        private int bias(Node node, int weightsPerChannel, int channel) {
            return BIAS_FACTOR * weightCells[node.offset + node.c * weightsPerChannel + channel];
        }

        private int greatest(Node source, int from) {
            int greatest = LOWEST;
            for (int row = window.firstRow; row < window.endRow; row++) {
                for (int column = window.firstColumn; column < window.endColumn; column++) {
                    greatest = Math.max(greatest, cells[from + (row * source.w + column) * source.c]);
                }
            }
            return greatest;
        }

        private int average(Node source, int from) {
            int sum = 0;
            int number = 0;
            for (int row = window.firstRow; row < window.endRow; row++) {
                for (int column = window.firstColumn; column < window.endColumn; column++) {
                    sum += cells[from + (row * source.w + column) * source.c];
                    number++;
                }
            }
            if (number == 0) {
                return 0;
            }
            int size = (2 * Math.abs(sum) + number) / (2 * number);
            return sum < 0 ? -size : size;
        }

        private void connect(Node node, Node source, int from, int to) {
            scaler.take(node.ratio);
            for (int channel = 0; channel < node.c; channel++) {
                int sum = bias(node, source.cells, channel);
                int weight = node.offset + channel * source.cells;
                for (int j = 0; j < source.cells; j++) {
                    sum += cells[from + j] * weightCells[weight + j];
                }
                cells[to + channel] = cut(scaler.scaled(sum));
            }
        }

        private void addUp(Node node, int from, int otherFrom, int to) {
            scaler.take(node.ratio);
            otherScaler.take(node.otherRatio);
            for (int i = 0; i < node.cells; i++) {
                cells[to + i] = cut(scaler.scaled(cells[from + i]) + otherScaler.scaled(cells[otherFrom + i]));
            }
        }

        private void join(Node node, Node source, int from, int otherFrom, int to) {
            int depth = source.c;
            int otherDepth = node.c - depth;
            for (int pixel = 0; pixel < node.h * node.w; pixel++) {
                int at = to + pixel * node.c;
                System.arraycopy(cells, from + pixel * depth, cells, at, depth);
                System.arraycopy(cells, otherFrom + pixel * otherDepth, cells, at + depth, otherDepth);
            }
        }

        private void hold(Node node, int from, int to) {
            for (int i = 0; i < node.cells; i++) {
                cells[to + i] = Math.max(node.low, Math.min(node.high, cells[from + i]));
            }
        }

        private void changeScale(Node node, int from, int to) {
            scaler.take(node.ratio);
            for (int i = 0; i < node.cells; i++) {
                cells[to + i] = cut(scaler.scaled(cells[from + i]));
            }
        }

        private static int cut(long value) {
            return (int) Math.max(LOWEST, Math.min(HIGHEST, value));
        }
    }
}
