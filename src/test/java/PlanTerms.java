/** The terms of the plan: lives, places and the peak. */
final class PlanTerms extends Sentences {
    private static final String TOGETHER =
            "PLAN: a PLACED node's cells lie together in the ARENA from its PLACE on.";
    private static final String LIVES = "It LIVES from its own step to the last step of a PLACED node"
            + " that has it as an input, or whose FUSED one has;";
    private static final String TO_THE_END = "what the OUTPUT STANDS FOR to the end.";
    private static final String IN_TURN = "By falling numbers of cells, alike by rising numbers of nodes,";
    private static final String LEAST = "each one gets the least PLACE from 0 on with which it lies over no node"
            + " that has its PLACE already and LIVES at a common step.";
    private static final String PEAK = "PEAK: the greatest end of all.";

    PlanTerms(Document document) {
        super(document);
    }

    @Override
    void all() {
        test(TOGETHER, "the first and the last cell of each one", this::cellsLieTogether);
        for (Maker maker : Maker.values()) {
            test(TOGETHER, "no other cell is written by " + maker, () -> nothingElseIsWritten(maker));
        }
        test(LIVES, "an input that is read at the next step alone", this::shortLives);
        test(LIVES, "to the last of two readers", this::lastReader);
        test(LIVES, "a reader through what stands for it", this::readerThroughAnother);
        test(LIVES, "not to a reader that is not placed", this::readerThatIsNotNeeded);
        test(LIVES, "to the clamp of a fused reader", this::fusedReader);
        test(LIVES, "from its own step, an input too", this::fromItsOwnStep);
        test(TO_THE_END, "the output is left when all is done", this::outputIsLeft);
        test(IN_TURN, "a larger one made later comes first", this::largerFirst);
        test(IN_TURN, "of two alike the earlier one comes first", this::earlierFirst);
        test(LEAST, "a gap that it just fills, and one cell more", this::gaps);
        test(LEAST, "below one that lives at another time", this::overTheDead);
        test(LEAST, "one common step is enough", this::oneCommonStep);
        test(PEAK, "of one cell, and the greatest that there is", this::peaks);
        test(PEAK, "not the end of the last one that got its place", this::peakIsNotTheLast);
    }

    private void cellsLieTogether() {
        TensorForge x = new TensorForge();
        fedInput(x, 1, 1, 3, 1.0, 1, 2, 3);
        fedInput(x, 1, 1, 5, 1.0, 11, 12, 13, 14, 15);
        x.concat(0, 1);
        x.output(2);
        x.compile();
        x.run(16);
        // 2 has 8 cells and lives at step 2 alone, with both inputs.
        plan(x, 2, 2, 0);
        plan(x, 1, 1, 8);
        plan(x, 0, 0, 13);
        int[] due = {1, 2, 3, 11, 12, 13, 14, 15, 11, 12, 13, 14, 15, 1, 2, 3};
        for (int cell : range(0, 15)) {
            Check.due(due[cell], () -> x.arena(cell));
        }
        Check.due(16, x::peak);
    }

    /** A node of the kind, with others before and behind it that live at its step. */
    private static TensorForge between(Maker maker) {
        TensorForge x = new TensorForge();
        setWeights(x, 0, 1, 2, 1, 2, 3, -1, 2, 1, 1, 2, 1, 2, 3, -1, 2, 1);
        fedInput(x, 2, 2, 2, 1.0, 11, 12, 13, 14, 15, 16, 17, 18);
        fedInput(x, 1, 1, 1, 1.0, 77);
        int made = maker.make(x, 0, 2.0);
        if (maker == Maker.INPUT) {
            x.feed(made, 0, bytes(1, 2, 3, 4, 5, 6, 7, 8));
        }
        x.dense(made, 1, 0, 1.0);
        x.add(1, 3, 1.0);
        x.dense(0, 1, 1, 1.0);
        x.add(4, 5, 1.0);
        return x;
    }

    /** What is left in the arena is what each node in turn wrote to its own cells. */
    private void nothingElseIsWritten(Maker maker) {
        TensorForge x = between(maker);
        x.output(6);
        x.compile();
        x.run(ENOUGH);
        String[] due = new String[x.peak()];
        for (int node = 0; node <= 6; node++) {
            if (x.about(node, 5) == 2) {
                String[] written = cells(between(maker), node).split(" ");
                System.arraycopy(written, 0, due, x.about(node, 7), written.length);
            }
        }
        for (int cell : range(0, due.length - 1)) {
            Check.due(due[cell], () -> x.arena(cell));
        }
    }

    private void shortLives() {
        TensorForge x = inputs(1);
        x.rescale(0, 2.0);
        x.rescale(1, 4.0);
        x.rescale(2, 8.0);
        x.output(3);
        x.compile();
        plan(x, 0, 0, 0);
        plan(x, 1, 1, 8);
        plan(x, 2, 2, 0);
        plan(x, 3, 3, 8);
        Check.due(16, x::peak);
    }

    private void lastReader() {
        TensorForge x = inputs(1);
        x.rescale(0, 2.0);
        x.rescale(1, 4.0);
        x.add(0, 2, 1.0);
        x.output(3);
        x.compile();
        // 0 lives at 0 .. 3, 1 at 1 and 2, 2 at 2 and 3, 3 at 3.
        plan(x, 0, 0, 0);
        plan(x, 1, 1, 8);
        plan(x, 2, 2, 16);
        plan(x, 3, 3, 8);
        Check.due(24, x::peak);
    }

    private void readerThroughAnother() {
        TensorForge x = inputs(1);
        x.reshape(0, 2, 2, 2);
        x.rescale(1, 2.0);
        x.rescale(2, 4.0);
        x.add(3, 1, 1.0);
        x.output(4);
        Check.due(4, x::compile);
        plan(x, 0, 0, 0);
        plan(x, 1, 0, 0);
        plan(x, 2, 1, 8);
        plan(x, 3, 2, 16);
        plan(x, 4, 3, 8);
        Check.due(24, x::peak);
    }

    private void readerThatIsNotNeeded() {
        TensorForge x = inputs(1);
        x.rescale(0, 2.0);
        x.rescale(1, 4.0);
        x.add(0, 2, 1.0);
        x.output(2);
        x.compile();
        plan(x, 0, 0, 0);
        plan(x, 1, 1, 8);
        plan(x, 2, 2, 0);
        Check.due(16, x::peak);
    }

    private void fusedReader() {
        TensorForge x = new TensorForge();
        x.input(1, 1, 4, 1.0);
        x.dense(0, 4, 0, 1.0);
        x.input(1, 1, 4, 1.0);
        x.clamp(1, 0, 9);
        x.add(2, 3, 1.0);
        x.output(4);
        Check.due(4, x::compile);
        // 0 lives at 0 .. 2, so that the clamp at step 2 can't lie over it.
        plan(x, 0, 0, 0);
        plan(x, 2, 1, 4);
        plan(x, 3, 2, 8);
        plan(x, 4, 3, 0);
        Check.due(12, x::peak);
        Check.due(NSEE, () -> x.about(1, 7));
    }

    private void fromItsOwnStep() {
        TensorForge x = inputs(1);
        x.rescale(0, 2.0);
        x.input(2, 2, 2, 1.0);
        x.add(1, 2, 1.0);
        x.output(3);
        x.compile();
        // The input 2 is done at step 2, when 0 lives no more.
        plan(x, 0, 0, 0);
        plan(x, 1, 1, 8);
        plan(x, 2, 2, 0);
        plan(x, 3, 3, 16);
        Check.due(24, x::peak);
        x.feed(0, 0, bytes(2, 2, 2, 2, 2, 2, 2, 2));
        x.feed(2, 0, bytes(5, 5, 5, 5, 5, 5, 5, 5));
        Check.due(8 * 7, () -> x.run(24));
    }

    private void outputIsLeft() {
        TensorForge x = inputs(1);
        x.feed(0, 0, bytes(1, 2, 3, 4, 5, 6, 7, 8));
        x.clamp(0, 2, 7);
        x.clamp(1, 3, 6);
        x.clamp(2, -128, 127);
        for (int output : range(0, 3)) {
            x.output(output);
            x.compile();
            int sum = x.run(ENOUGH);
            int place = x.about(output, 7);
            int left = 0;
            for (int i = 0; i < 8; i++) {
                left += x.arena(place + i);
            }
            Check.holds("the output is left", sum == left && sum == 36);
        }
    }

    private void largerFirst() {
        TensorForge x = new TensorForge();
        x.input(1, 1, 1, 1.0);
        x.dense(0, 2, 0, 1.0);
        x.dense(1, 8, 0, 1.0);
        x.output(2);
        x.compile();
        // 2 at 0, then 1 (which lives with it) behind, then 0, which lives with 1 alone.
        plan(x, 2, 2, 0);
        plan(x, 1, 1, 8);
        plan(x, 0, 0, 0);
        Check.due(10, x::peak);
        TensorForge y = new TensorForge();
        y.input(1, 1, 7, 1.0);
        y.dense(0, 8, 0, 1.0);
        y.output(1);
        y.compile();
        plan(y, 1, 1, 0);
        plan(y, 0, 0, 8);
    }

    private void earlierFirst() {
        TensorForge x = new TensorForge();
        x.input(1, 1, 4, 1.0);
        x.dense(0, 4, 0, 1.0);
        x.output(1);
        x.compile();
        plan(x, 0, 0, 0);
        plan(x, 1, 1, 4);
        // As many cells in another shape are alike too.
        TensorForge y = new TensorForge();
        y.input(1, 2, 4, 1.0);
        y.reshape(0, 4, 2, 1);
        y.input(1, 1, 8, 1.0);
        y.reshape(1, 1, 1, 8);
        y.add(2, 3, 1.0);
        y.output(4);
        y.compile();
        // Lives: 0: 0 and 1, 1: 1 .. 3, 2: 2 .. 4, 3: 3 and 4, 4: 4.
        plan(y, 0, 0, 0);
        plan(y, 1, 1, 8);
        plan(y, 2, 2, 0);
        plan(y, 3, 3, 16);
        plan(y, 4, 4, 8);
        Check.due(24, y::peak);
    }

    /**
     * The dense nodes 1, 2 and 4 with 8, 7 and 6 cells leave a gap of two cells between 4 and 2,
     * while 3, with some cells, lives with both of them.
     */
    private static TensorForge withGap(int cells) {
        TensorForge x = new TensorForge();
        x.input(1, 1, 1, 1.0);
        x.dense(0, 8, 0, 1.0);
        x.dense(1, 7, 0, 1.0);
        x.dense(2, cells, 0, 1.0);
        x.dense(2, 6, 0, 1.0);
        x.dense(4, 1, 0, 1.0);
        x.dense(3, 1, 0, 1.0);
        x.add(5, 6, 1.0);
        x.output(7);
        Check.due(8, x::compile);
        plan(x, 1, 1, 0);
        plan(x, 2, 2, 8);
        plan(x, 4, 4, 0);
        return x;
    }

    private void gaps() {
        TensorForge one = withGap(1);
        // With 1 cell it comes behind the input 0, which lives at other steps.
        plan(one, 3, 3, 6);
        TensorForge two = withGap(2);
        plan(two, 3, 3, 6);
        plan(two, 0, 0, 8);
        plan(two, 5, 5, 8);
        plan(two, 6, 6, 0);
        plan(two, 7, 7, 1);
        Check.due(15, two::peak);
        TensorForge three = withGap(3);
        plan(three, 3, 3, 15);
        plan(three, 0, 0, 8);
        plan(three, 5, 5, 6);
        plan(three, 6, 6, 0);
        plan(three, 7, 7, 1);
        Check.due(18, three::peak);
    }

    private void overTheDead() {
        TensorForge x = new TensorForge();
        x.input(4, 4, 8, 1.0);
        x.pool(0, 4, false);
        x.pool(1, 4, false);
        x.dense(2, 8, 0, 1.0);
        x.output(3);
        x.compile();
        // 128, 32, 8 and 8 cells: 1 lies behind 0; 2 lives with 1 alone, 3 with 2 alone.
        plan(x, 0, 0, 0);
        plan(x, 1, 1, 128);
        plan(x, 2, 2, 0);
        plan(x, 3, 3, 8);
        Check.due(160, x::peak);
    }

    private void oneCommonStep() {
        // 0 is read for the last time at step 2, where 2 begins: no cell of them is shared.
        TensorForge x = new TensorForge();
        x.input(1, 1, 2, 1.0);
        x.rescale(0, 2.0);
        x.add(0, 1, 1.0);
        x.rescale(2, 4.0);
        x.output(3);
        x.compile();
        plan(x, 0, 0, 0);
        plan(x, 1, 1, 2);
        plan(x, 2, 2, 4);
        // 3 begins one step later.
        plan(x, 3, 3, 0);
        Check.due(6, x::peak);
    }

    private void peaks() {
        TensorForge x = new TensorForge();
        x.input(1, 1, 1, 1.0);
        x.output(0);
        x.compile();
        Check.due(1, x::peak);
        TensorForge y = sevenFullInputs();
        Check.due(13, y::compile);
        for (int node : range(0, 7)) {
            plan(y, node, node, 128 * node);
        }
        // At step 8 the inputs 0 and 1 live no more, at step 9 nor does 2.
        plan(y, 8, 8, 0);
        plan(y, 9, 9, 128);
        Check.due(1024, y::peak);
        Check.due(UOE, () -> y.run(1023));
        Check.due(0, () -> y.run(1024));
        Check.due(0, () -> y.arena(1023));
        Check.due(NSEE, () -> y.arena(1024));
        y.feed(0, 127, bytes(3));
        y.feed(6, 0, bytes(4));
        Check.due(7, () -> y.run(1024));
    }

    private static TensorForge sevenFullInputs() {
        TensorForge x = new TensorForge();
        for (int i = 0; i < 7; i++) {
            x.input(4, 4, 8, 1.0);
        }
        x.add(0, 1, 1.0);
        for (int i = 2; i < 7; i++) {
            x.add(5 + i, i, 1.0);
        }
        x.output(12);
        return x;
    }

    private void peakIsNotTheLast() {
        TensorForge x = new TensorForge();
        x.input(1, 1, 8, 1.0);
        x.dense(0, 8, 0, 1.0);
        x.dense(1, 1, 0, 1.0);
        x.dense(2, 1, 0, 1.0);
        x.output(3);
        x.compile();
        // 0 and 1 end at 16; 2 lives with 1 and begins at 0, 3 lies behind it.
        plan(x, 2, 2, 0);
        plan(x, 3, 3, 1);
        Check.due(16, x::peak);
        x.output(2);
        x.compile();
        Check.due(16, x::peak);
        x.output(0);
        x.compile();
        Check.due(8, x::peak);
    }
}
