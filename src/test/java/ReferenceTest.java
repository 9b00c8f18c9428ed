import java.util.Random;
import java.util.TreeMap;

/** Long mixed runs of calls, right and wrong ones, answered alike by the class and the reference. */
public final class ReferenceTest {
    private static final int RUNS = 1500;
    private static final int CALLS = 120;
    /** The calls, and the exceptions that each one may throw, counted over the document's face. */
    private static final int CASES = 19 + 36;
    private static final double[] SCALES = {1.0, 0.5, 0.25, 2.0, 0.125, 0.1, 3.0, 0.013, 1.7, 40.0};
    private static final double[] ODD_SCALES = {0.0, -0.0, -1.0, Double.NaN, Double.POSITIVE_INFINITY,
        Double.NEGATIVE_INFINITY, Double.MIN_VALUE, 1e-300, 1000000.0, 1000000.125, 0.0000001, 1e-7 * 3.0, 29999.0,
        30000.0, 0.9999999999, 0.99999999999999988};
    private static final int[] ODD_INTS = {-1, Integer.MIN_VALUE, Integer.MAX_VALUE, 0, 4, 5, 8, 9, 12, 13, 14, 108,
        127, 128, -128, -129, 511, 512, 65536};

    private final Random random;
    private final TensorForge forge = new TensorForge();
    private final Reference reference = new Reference();
    private final TreeMap<String, Integer> seen;
    private int made = 0;

    private ReferenceTest(long seed, TreeMap<String, Integer> seen) {
        random = new Random(seed);
        this.seen = seen;
    }

    public static void main(String[] args) {
        TreeMap<String, Integer> seen = new TreeMap<>();
        for (int run = 0; run < RUNS; run++) {
            Check.part("seed " + run);
            new ReferenceTest(run, seen).go();
        }
        // What no draw reaches is not compared: each call must have answered and thrown all that it can.
        Check.holds("all cases were met: " + seen, seen.size() == CASES);
        Check.end();
    }

    private void go() {
        for (int i = 0; i < 6; i++) {
            weights();
        }
        input();
        for (int i = 0; i < CALLS; i++) {
            call();
        }
        lookAtAll();
    }

    private String both(String name, Check.Call asked, Check.Call due) {
        String wanted = Check.outcome(due);
        Check.same(name + " " + wanted, name + " " + Check.outcome(asked));
        boolean thrown = wanted.startsWith("throws");
        seen.merge(thrown ? name + " " + wanted : name, 1, Integer::sum);
        // A call that throws changes nothing; looked at only now and then, because it takes long.
        if (thrown && random.nextInt(20) == 0) {
            lookAtAll();
        }
        return wanted;
    }

    private int number(int usual) {
        return random.nextInt(40) == 0 ? ODD_INTS[random.nextInt(ODD_INTS.length)] : usual;
    }

    private int node() {
        int back = random.nextInt(3) == 0 ? 1 + random.nextInt(3) : 1 + random.nextInt(Math.max(1, made));
        return number(Math.max(0, made - back));
    }

    private double scale() {
        return random.nextInt(25) == 0 ? ODD_SCALES[random.nextInt(ODD_SCALES.length)]
                : SCALES[random.nextInt(random.nextInt(2) == 0 ? 2 : SCALES.length)];
    }

    private void call() {
        switch (random.nextInt(made < 14 ? 20 : 13)) {
            case 0: weights(); break;
            case 1: feed(); break;
            case 2: feed(); break;
            case 3: weightScale(); break;
            case 4: output(); break;
            case 5: output(); compile(); break;
            case 6: compile(); break;
            case 7: run(); break;
            case 8: compile(); run(); lookAtAll(); break;
            case 9: arenaAndResult(); break;
            case 10: about(); break;
            case 11: both("peak", forge::peak, reference::peak); break;
            default: make(random.nextInt(9)); break;
        }
    }

    private void make(int kind) {
        int before = made;
        switch (kind) {
            case 0: input(); break;
            case 1: windows(); break;
            case 2: dense(); break;
            case 3: add(); break;
            case 4: concat(); break;
            case 5: reshape(); break;
            case 6: pool(); break;
            case 7: clamp(); break;
            default: rescale(); break;
        }
        if (made > before && random.nextInt(3) == 0) {
            output();
        }
    }

    private void entered(String name, Check.Call asked, Check.Call due) {
        String wanted = both(name, asked, due);
        if (!wanted.startsWith("throws")) {
            made = Integer.parseInt(wanted) + 1;
        }
    }

    private void weights() {
        int offset = number(random.nextInt(512));
        long bytes = random.nextInt(2) == 0 ? random.nextLong() : random.nextLong() & 0x0307010f03070101L;
        both("weights", () -> forge.weights(offset, bytes), () -> reference.weights(offset, bytes));
    }

    private void weightScale() {
        double scale = scale();
        both("weightScale", () -> {
            forge.weightScale(scale);
            return "done";
        }, () -> reference.weightScale(scale));
    }

    private void input() {
        int h = number(1 + random.nextInt(4));
        int w = number(1 + random.nextInt(4));
        int c = number(1 + random.nextInt(random.nextInt(4) == 0 ? 8 : 3));
        double scale = scale();
        entered("input", () -> forge.input(h, w, c, scale), () -> reference.input(h, w, c, scale));
    }

    private void windows() {
        int node = node();
        boolean depthwise = random.nextBoolean();
        int windows = random.nextInt(3) == 0 ? 6 + random.nextInt(6) : random.nextInt(12);
        int code = number(depthwise ? windows : windows + 12 * (1 + random.nextInt(8)));
        int offset = number(random.nextInt(3) == 0 ? 0 : random.nextInt(500));
        double scale = scale();
        entered("windows", () -> forge.windows(node, code, depthwise, offset, scale),
                () -> reference.windows(node, code, depthwise, offset, scale));
    }

    private void dense() {
        int node = node();
        int d = number(1 + random.nextInt(8));
        int offset = number(random.nextInt(3) == 0 ? 0 : random.nextInt(500));
        double scale = scale();
        entered("dense", () -> forge.dense(node, d, offset, scale), () -> reference.dense(node, d, offset, scale));
    }

    private void add() {
        int one = node();
        int other = random.nextInt(3) == 0 ? one : node();
        double scale = scale();
        entered("add", () -> forge.add(one, other, scale), () -> reference.add(one, other, scale));
    }

    private void concat() {
        int one = node();
        int other = random.nextInt(2) == 0 ? one : node();
        entered("concat", () -> forge.concat(one, other), () -> reference.concat(one, other));
    }

    private void reshape() {
        int node = node();
        int[] shape = {1 + random.nextInt(4), 1 + random.nextInt(4), 1 + random.nextInt(8)};
        if (node >= 0 && node < made && random.nextInt(10) != 0) {
            shape = otherShape(node);
        }
        int h = number(shape[0]);
        int w = number(shape[1]);
        int c = number(shape[2]);
        entered("reshape", () -> forge.reshape(node, h, w, c), () -> reference.reshape(node, h, w, c));
    }

    private int[] otherShape(int node) {
        int cells = reference.about(node, 1) * reference.about(node, 2) * reference.about(node, 3);
        for (int i = 0; i < 50; i++) {
            int h = 1 + random.nextInt(4);
            int w = 1 + random.nextInt(4);
            if (cells % (h * w) == 0 && cells / (h * w) <= 8) {
                return new int[] {h, w, cells / (h * w)};
            }
        }
        return new int[] {1, 1, cells};
    }

    private void pool() {
        int node = node();
        int code = number(random.nextInt(12));
        boolean average = random.nextBoolean();
        entered("pool", () -> forge.pool(node, code, average), () -> reference.pool(node, code, average));
    }

    private void clamp() {
        int node = node();
        boolean wide = random.nextInt(4) == 0;
        int low = number(wide ? -128 : -random.nextInt(20));
        int high = number(wide ? 127 : random.nextInt(30));
        entered("clamp", () -> forge.clamp(node, low, high), () -> reference.clamp(node, low, high));
    }

    private void rescale() {
        int node = node();
        double scale = scale();
        entered("rescale", () -> forge.rescale(node, scale), () -> reference.rescale(node, scale));
    }

    private void output() {
        int node = random.nextInt(3) == 0 ? node() : made - 1;
        both("output", () -> forge.output(node), () -> reference.output(node));
    }

    private void compile() {
        both("compile", forge::compile, reference::compile);
    }

    private void feed() {
        int node = number(random.nextInt(3) == 0 ? node() : 0);
        int from = number(random.nextInt(40));
        long bytes = random.nextInt(3) == 0 ? random.nextLong() : random.nextLong() & 0x0f0f0f0f0f0f0f0fL;
        both("feed", () -> forge.feed(node, from, bytes), () -> reference.feed(node, from, bytes));
    }

    private void run() {
        int peak = 50;
        try {
            peak = reference.peak();
        } catch (IllegalStateException e) {
            // Then the size does not matter.
        }
        int arena = number(peak + random.nextInt(6) - 1);
        both("run", () -> forge.run(arena), () -> reference.run(arena));
    }

    private void arenaAndResult() {
        int i = number(random.nextInt(60));
        both("arena", () -> forge.arena(i), () -> reference.arena(i));
        both("result", () -> forge.result(i), () -> reference.result(i));
    }

    private void about() {
        int node = number(random.nextInt(made + 1));
        int what = number(random.nextInt(9));
        both("about", () -> forge.about(node, what), () -> reference.about(node, what));
    }

    private void lookAtAll() {
        StringBuilder due = new StringBuilder();
        StringBuilder got = new StringBuilder();
        for (int node = -1; node < made + 1; node++) {
            for (int what = -1; what < 9; what++) {
                int n = node;
                int part = what;
                due.append("about(" + n + ", " + part + ") " + Check.outcome(() -> reference.about(n, part)) + "\n");
                got.append("about(" + n + ", " + part + ") " + Check.outcome(() -> forge.about(n, part)) + "\n");
            }
        }
        due.append("peak " + Check.outcome(reference::peak) + "\n");
        got.append("peak " + Check.outcome(forge::peak) + "\n");
        lookAtCells(due, got);
        if (!due.toString().equals(got.toString())) {
            String[] wanted = due.toString().split("\n");
            String[] answered = got.toString().split("\n");
            for (int i = 0; i < wanted.length; i++) {
                Check.same(wanted[i], answered[i]);
            }
        }
    }

    private void lookAtCells(StringBuilder due, StringBuilder got) {
        boolean more = true;
        for (int i = -1; i < 14 * 128 + 1 && more; i++) {
            int cell = i;
            String arena = Check.outcome(() -> reference.arena(cell));
            due.append("arena(" + i + ") " + arena + "\n");
            got.append("arena(" + i + ") " + Check.outcome(() -> forge.arena(cell)) + "\n");
            due.append("result(" + i + ") " + Check.outcome(() -> reference.result(cell)) + "\n");
            got.append("result(" + i + ") " + Check.outcome(() -> forge.result(cell)) + "\n");
            more = i < 0 || !arena.startsWith("throws");
        }
    }
}
