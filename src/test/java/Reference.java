import java.math.BigDecimal;
import java.math.BigInteger;
import java.math.RoundingMode;
import java.util.ArrayList;
import java.util.Arrays;
import java.util.HashMap;
import java.util.List;
import java.util.Map;
import java.util.NoSuchElementException;

/**
 * The document once more, as slowly and as literally as it can be written, to compare with.
 * It shares no code and as few ideas as possible with the class that is tested.
 */
final class Reference {
    private static final class Made {
        String kind;
        int number;
        List<Integer> inputs = new ArrayList<>();
        int h;
        int w;
        int c;
        double scale;
        Map<String, Object> has = new HashMap<>();
        int[] fed;

        int size() {
            return h * w * c;
        }

        int value(String name) {
            return (Integer) has.get(name);
        }
    }

    private static final List<String> KINDS = List.of("INPUT", "CONV", "DEPTHWISE", "DENSE", "ADD", "CONCAT",
            "RESHAPE", "MAX", "AVERAGE", "CLAMP", "RESCALE");

    private final int[] weights = new int[512];
    private double wscale = 1.0;
    private final List<Made> nodes = new ArrayList<>();
    private Integer output = null;
    private boolean compiled = false;
    private final Map<Integer, Integer> standsFor = new HashMap<>();
    private final List<Integer> needed = new ArrayList<>();
    private final List<Integer> fused = new ArrayList<>();
    private final List<Integer> placed = new ArrayList<>();
    private final Map<Integer, Integer> places = new HashMap<>();
    private int peak;
    private final Map<Integer, int[]> worked = new HashMap<>();
    private int[] lastArena = null;
    private double[] lastResult = null;

    private static void argument(boolean good) {
        if (!good) {
            throw new IllegalArgumentException();
        }
    }

    private static void scaleArgument(double scale) {
        argument(!Double.isNaN(scale) && scale > 0.0 && !(scale > 1000000.0));
    }

    private static void good(double ratio) {
        if (!(ratio > 0.0000001) || !(ratio < 30000.0)) {
            throw new ArithmeticException();
        }
    }

    private Made at(int node) {
        argument(node >= 0 && node < nodes.size());
        return nodes.get(node);
    }

    private int enter(Made made, String kind, int h, int w, int c, double scale) {
        if (nodes.size() == 14) {
            throw new IllegalStateException();
        }
        made.kind = kind;
        made.number = nodes.size();
        made.h = h;
        made.w = w;
        made.c = c;
        made.scale = scale;
        nodes.add(made);
        compiled = false;
        return made.number;
    }

    private static Made of(int... inputs) {
        Made made = new Made();
        for (int input : inputs) {
            made.inputs.add(input);
        }
        return made;
    }

    private static boolean shape(int h, int w, int c) {
        return 1 <= h && h <= 4 && 1 <= w && w <= 4 && 1 <= c && c <= 8;
    }

    private static int put(int[] row, int from, long bytes) {
        String hex = String.format("%016x", bytes);
        int set = 0;
        for (int i = 0; i < 8 && from + i < row.length; i++) {
            int value = Integer.parseInt(hex.substring(2 * i, 2 * i + 2), 16);
            row[from + i] = value > 127 ? value - 256 : value;
            set++;
        }
        return set;
    }

    int weights(int offset, long bytes) {
        argument(offset >= 0 && offset <= 511);
        return put(weights, offset, bytes);
    }

    String weightScale(double scale) {
        scaleArgument(scale);
        wscale = scale;
        return "done";
    }

    int input(int h, int w, int c, double scale) {
        argument(shape(h, w, c));
        scaleArgument(scale);
        Made made = of();
        made.fed = new int[h * w * c];
        return enter(made, "INPUT", h, w, c, scale);
    }

    private static int k(int code) {
        return 1 + code % 3;
    }

    private static int step(int code) {
        return 1 + code / 3 % 2;
    }

    private static int placesAlong(int code, int h) {
        if (code >= 6) {
            return (h + step(code) - 1) / step(code);
        }
        argument(h >= k(code));
        return (h - k(code)) / step(code) + 1;
    }

    private static int cellsBefore(int code, int h) {
        if (code < 6) {
            return 0;
        }
        int difference = (placesAlong(code, h) - 1) * step(code) + k(code) - h;
        return difference < 0 ? 0 : difference / 2;
    }

    int windows(int node, int code, boolean depthwise, int offset, double scale) {
        Made in = at(node);
        scaleArgument(scale);
        argument(code >= 0);
        int d = depthwise ? in.c : code / 12;
        int windows = depthwise ? code : code % 12;
        argument(windows <= 11 && d >= 1 && d <= 8);
        int h = placesAlong(windows, in.h);
        int w = placesAlong(windows, in.w);
        long all = (depthwise ? 1L : in.c) * k(windows) * k(windows) * d + d;
        argument(offset >= 0 && offset + all <= 512);
        double ratio = in.scale * wscale / scale;
        good(ratio);
        Made made = of(node);
        made.has.put("code", windows);
        made.has.put("offset", offset);
        made.has.put("wscale", wscale);
        return enter(made, depthwise ? "DEPTHWISE" : "CONV", h, w, d, scale);
    }

    int dense(int node, int d, int offset, double scale) {
        Made in = at(node);
        argument(d >= 1 && d <= 8);
        scaleArgument(scale);
        argument(offset >= 0 && (long) offset + (long) d * in.size() + d <= 512);
        good(in.scale * wscale / scale);
        Made made = of(node);
        made.has.put("offset", offset);
        made.has.put("wscale", wscale);
        return enter(made, "DENSE", 1, 1, d, scale);
    }

    int add(int one, int other, double scale) {
        Made a = at(one);
        Made b = at(other);
        scaleArgument(scale);
        argument(a.h == b.h && a.w == b.w && a.c == b.c);
        good(a.scale / scale);
        good(b.scale / scale);
        return enter(of(one, other), "ADD", a.h, a.w, a.c, scale);
    }

    int concat(int one, int other) {
        Made a = at(one);
        Made b = at(other);
        argument(a.h == b.h && a.w == b.w && a.scale == b.scale && a.c + b.c <= 8);
        return enter(of(one, other), "CONCAT", a.h, a.w, a.c + b.c, a.scale);
    }

    int reshape(int node, int h, int w, int c) {
        Made in = at(node);
        argument(shape(h, w, c) && h * w * c == in.size());
        return enter(of(node), "RESHAPE", h, w, c, in.scale);
    }

    int pool(int node, int code, boolean average) {
        Made in = at(node);
        argument(code >= 0 && code <= 11);
        int h = placesAlong(code, in.h);
        int w = placesAlong(code, in.w);
        Made made = of(node);
        made.has.put("code", code);
        return enter(made, average ? "AVERAGE" : "MAX", h, w, in.c, in.scale);
    }

    int clamp(int node, int low, int high) {
        Made in = at(node);
        argument(-128 <= low && low <= high && high <= 127);
        Made made = of(node);
        made.has.put("low", low);
        made.has.put("high", high);
        return enter(made, "CLAMP", in.h, in.w, in.c, in.scale);
    }

    int rescale(int node, double scale) {
        Made in = at(node);
        scaleArgument(scale);
        good(in.scale / scale);
        return enter(of(node), "RESCALE", in.h, in.w, in.c, scale);
    }

    int output(int node) {
        Made made = at(node);
        output = node;
        compiled = false;
        return made.size();
    }

    private List<Integer> meantInputs(Made made) {
        List<Integer> meant = new ArrayList<>();
        for (int input : made.inputs) {
            meant.add(standsFor.get(input));
        }
        return meant;
    }

    private String description(Made made) {
        return made.kind + meantInputs(made) + made.h + "," + made.w + "," + made.c + "," + made.scale
                + new java.util.TreeMap<>(made.has);
    }

    private void smaller() {
        standsFor.clear();
        Map<String, Integer> first = new HashMap<>();
        for (Made made : nodes) {
            int n = made.number;
            if (made.kind.equals("INPUT")) {
                standsFor.put(n, n);
                continue;
            }
            Made in = nodes.get(meantInputs(made).get(0));
            boolean same = made.kind.equals("RESHAPE") && made.h == in.h && made.w == in.w && made.c == in.c
                    || made.kind.equals("CLAMP") && made.value("low") == -128 && made.value("high") == 127
                    || made.kind.equals("RESCALE") && made.scale == in.scale;
            if (same) {
                standsFor.put(n, in.number);
            } else {
                standsFor.put(n, first.computeIfAbsent(description(made), text -> n));
            }
        }
    }

    private void findNeeded(int node) {
        if (!needed.contains(node)) {
            needed.add(node);
            for (int input : meantInputs(nodes.get(node))) {
                findNeeded(input);
            }
        }
    }

    private void findFused() {
        for (int node : needed) {
            Made made = nodes.get(node);
            boolean weighs = List.of("CONV", "DEPTHWISE", "DENSE").contains(made.kind);
            List<Made> users = new ArrayList<>();
            for (int user : needed) {
                for (int input : meantInputs(nodes.get(user))) {
                    if (input == node) {
                        users.add(nodes.get(user));
                    }
                }
            }
            if (weighs && node != standsFor.get(output) && users.size() == 1 && users.get(0).kind.equals("CLAMP")) {
                fused.add(node);
            }
        }
    }

    private List<Integer> reads(int node) {
        List<Integer> meant = meantInputs(nodes.get(node));
        if (meant.size() == 1 && fused.contains(meant.get(0))) {
            return meantInputs(nodes.get(meant.get(0)));
        }
        return meant;
    }

    private boolean lives(int node, int step) {
        int last = placed.indexOf(node);
        for (int user : placed) {
            if (reads(user).contains(node)) {
                last = Math.max(last, placed.indexOf(user));
            }
        }
        if (node == standsFor.get(output)) {
            last = placed.size() - 1;
        }
        return step >= placed.indexOf(node) && step <= last;
    }

    private void findPlaces() {
        boolean[][] taken = new boolean[placed.size()][14 * 128 + 256];
        List<Integer> order = new ArrayList<>(placed);
        order.sort((a, b) -> nodes.get(b).size() - nodes.get(a).size() != 0
                ? nodes.get(b).size() - nodes.get(a).size() : a - b);
        peak = 0;
        places.clear();
        for (int node : order) {
            int place = 0;
            while (!free(taken, node, place)) {
                place++;
            }
            places.put(node, place);
            peak = Math.max(peak, place + nodes.get(node).size());
            for (int step = 0; step < placed.size(); step++) {
                if (lives(node, step)) {
                    Arrays.fill(taken[step], place, place + nodes.get(node).size(), true);
                }
            }
        }
    }

    private boolean free(boolean[][] taken, int node, int place) {
        for (int step = 0; step < placed.size(); step++) {
            if (lives(node, step)) {
                for (int cell = place; cell < place + nodes.get(node).size(); cell++) {
                    if (taken[step][cell]) {
                        return false;
                    }
                }
            }
        }
        return true;
    }

    int compile() {
        if (output == null) {
            throw new IllegalStateException();
        }
        smaller();
        needed.clear();
        fused.clear();
        placed.clear();
        findNeeded(standsFor.get(output));
        findFused();
        for (Made made : nodes) {
            if (needed.contains(made.number) && !fused.contains(made.number)) {
                placed.add(made.number);
            }
        }
        findPlaces();
        compiled = true;
        return placed.size();
    }

    int feed(int node, int from, long bytes) {
        Made made = at(node);
        argument(made.kind.equals("INPUT") && from >= 0 && from < made.size());
        return put(made.fed, from, bytes);
    }

    private static BigInteger scaled(long s, double ratio) {
        double r = ratio;
        int e = 0;
        while (r >= 1.0) {
            r /= 2;
            e++;
        }
        while (r < 0.5) {
            r *= 2;
            e--;
        }
        long m = (long) (r * 2147483648.0 + 0.5);
        if (m == 2147483648L) {
            m = 1073741824L;
            e++;
        }
        BigDecimal quotient = new BigDecimal(BigInteger.valueOf(s).multiply(BigInteger.valueOf(m)))
                .divide(new BigDecimal(BigInteger.TWO.pow(31 - e)));
        return quotient.setScale(0, RoundingMode.HALF_UP).toBigIntegerExact();
    }

    private static int cut(BigInteger value) {
        return value.max(BigInteger.valueOf(-128)).min(BigInteger.valueOf(127)).intValueExact();
    }

    /** The cells of a node, worked out from its inputs without any arena. */
    private int[] cellsOf(Made made) {
        int[] known = worked.get(made.number);
        if (known == null) {
            known = made.kind.equals("INPUT") ? made.fed.clone() : workOut(made);
            worked.put(made.number, known);
        }
        return known;
    }

    private int[] workOut(Made made) {
        Made in = nodes.get(made.inputs.get(0));
        int[] a = cellsOf(in);
        Made second = made.inputs.size() == 2 ? nodes.get(made.inputs.get(1)) : null;
        int[] b = second == null ? null : cellsOf(second);
        int[] cells = new int[made.size()];
        for (int y = 0; y < made.h; y++) {
            for (int x = 0; x < made.w; x++) {
                for (int o = 0; o < made.c; o++) {
                    int j = (y * made.w + x) * made.c + o;
                    cells[j] = second == null ? cellOfOne(made, in, a, y, x, o) : cellOfTwo(made, in, second, a, b, j);
                }
            }
        }
        return cells;
    }

    private static int cellOfTwo(Made made, Made in, Made second, int[] a, int[] b, int j) {
        if (made.kind.equals("ADD")) {
            return cut(scaled(a[j], in.scale / made.scale).add(scaled(b[j], second.scale / made.scale)));
        }
        int pixel = j / made.c;
        int o = j % made.c;
        return o < in.c ? a[pixel * in.c + o] : b[pixel * second.c + o - in.c];
    }

    private int cellOfOne(Made made, Made in, int[] a, int y, int x, int o) {
        int j = (y * made.w + x) * made.c + o;
        switch (made.kind) {
            case "RESHAPE":
                return a[j];
            case "CLAMP":
                return Math.min(Math.max(a[j], made.value("low")), made.value("high"));
            case "RESCALE":
                return cut(scaled(a[j], in.scale / made.scale));
            case "DENSE":
                return dense(made, in, a, o);
            default:
                return window(made, in, a, y, x, o);
        }
    }

    private int dense(Made made, Made in, int[] a, int o) {
        int offset = made.value("offset");
        long sum = 16L * weights[offset + made.c * a.length + o];
        for (int j = 0; j < a.length; j++) {
            sum += (long) a[j] * weights[offset + o * a.length + j];
        }
        return cut(scaled(sum, in.scale * (Double) made.has.get("wscale") / made.scale));
    }

    private int window(Made made, Made in, int[] a, int y, int x, int o) {
        int code = made.value("code");
        int k = k(code);
        List<Integer> there = new ArrayList<>();
        long sum = 0;
        for (int ky = 0; ky < k; ky++) {
            for (int kx = 0; kx < k; kx++) {
                int row = y * step(code) - cellsBefore(code, in.h) + ky;
                int column = x * step(code) - cellsBefore(code, in.w) + kx;
                if (row < 0 || row >= in.h || column < 0 || column >= in.w) {
                    continue;
                }
                for (int i = 0; i < in.c; i++) {
                    int cell = a[(row * in.w + column) * in.c + i];
                    if (i == o) {
                        there.add(cell);
                    }
                    if (made.kind.equals("CONV")) {
                        sum += (long) cell * weights[made.value("offset") + o * k * k * in.c + ky * k * in.c + kx * in.c + i];
                    } else if (made.kind.equals("DEPTHWISE") && i == o) {
                        sum += (long) cell * weights[made.value("offset") + o * k * k + ky * k + kx];
                    }
                }
            }
        }
        if (made.kind.equals("MAX")) {
            return there.stream().mapToInt(Integer::intValue).max().getAsInt();
        }
        if (made.kind.equals("AVERAGE")) {
            int total = there.stream().mapToInt(Integer::intValue).sum();
            double exact = (double) total / there.size();
            return (int) (exact < 0 ? -Math.floor(-exact + 0.5) : Math.floor(exact + 0.5));
        }
        int all = made.kind.equals("CONV") ? made.c * k * k * in.c : made.c * k * k;
        sum += 16L * weights[made.value("offset") + all + o];
        return cut(scaled(sum, in.scale * (Double) made.has.get("wscale") / made.scale));
    }

    int run(int arena) {
        argument(arena >= 0);
        if (!compiled) {
            throw new IllegalStateException();
        }
        if (arena < peak) {
            throw new UnsupportedOperationException();
        }
        worked.clear();
        lastArena = new int[peak];
        for (int node : placed) {
            int[] cells = cellsOf(nodes.get(node));
            System.arraycopy(cells, 0, lastArena, places.get(node), cells.length);
        }
        int[] cells = cellsOf(nodes.get(output));
        lastResult = new double[cells.length];
        int sum = 0;
        for (int i = 0; i < cells.length; i++) {
            sum += cells[i];
            lastResult[i] = cells[i] * nodes.get(output).scale;
        }
        return sum;
    }

    int arena(int i) {
        if (lastArena == null || i < 0 || i >= lastArena.length) {
            throw new NoSuchElementException();
        }
        return lastArena[i];
    }

    double result(int i) {
        if (lastResult == null || i < 0 || i >= lastResult.length) {
            throw new NoSuchElementException();
        }
        return lastResult[i];
    }

    int about(int node, int what) {
        Made made = at(node);
        argument(what >= 0 && what <= 7);
        if (what < 4) {
            return List.of(KINDS.indexOf(made.kind), made.h, made.w, made.c).get(what);
        }
        if (!compiled) {
            throw new IllegalStateException();
        }
        int meant = standsFor.get(node);
        if (what == 4) {
            return meant;
        }
        if (what == 5) {
            return placed.contains(meant) ? 2 : fused.contains(meant) ? 1 : 0;
        }
        if (!placed.contains(meant)) {
            throw new NoSuchElementException();
        }
        return what == 6 ? placed.indexOf(meant) : places.get(meant);
    }

    int peak() {
        if (!compiled) {
            throw new IllegalStateException();
        }
        return peak;
    }
}
