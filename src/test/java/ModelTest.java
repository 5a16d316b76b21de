/** All promises at once: long runs of calls, each answer compared with the model's. The runs are always the same. */
public final class ModelTest {
    private static final int RUNS = 600;
    private static final int CALLS = 512;

    private static int seed;

    public static void main(String[] args) {
        for (int run = 0; run < RUNS; run++) {
            seed = 7919 * run + 1;
            compare(run);
        }
        Check.end();
    }

    private static int pick(int bound) {
        seed = seed * 1664525 + 1013904223;
        return (int) ((seed >>> 8) * (long) bound >> 24);
    }

    private static void compare(int run) {
        PlotKernel x = new PlotKernel();
        Model m = new Model();
        int calls = 0;
        while (calls < CALLS) {
            String what = "run " + run + " call " + calls + " ";
            int kind = pick(100);
            if (kind < 45) {
                calls += feedCommand(what, x, m, run % 4);
            } else if (kind < 70) {
                int ticks = pick(run % 3 == 0 ? 8 : 120) + 1;
                Check.due(what + "tick(" + ticks + ")", x.tick(ticks), m.tick(ticks));
                calls++;
            } else if (kind < 75) {
                Check.due(what + "cut", x.cut(), m.cut());
                calls++;
            } else if (kind < 79) {
                pourOrRefill(what, x, m);
                calls++;
            } else {
                ask(what, x, m);
                calls++;
            }
        }
        compareAll("run " + run + " at its end ", x, m);
    }

    private static int feedCommand(String what, PlotKernel x, Model m, int style) {
        int[][] commands = {
            {1, pick(256), pick(256)},
            {2, pick(256), pick(256)},
            {1 + pick(2), pick(31) - 15 & 255, pick(31) - 15 & 255},
            {2, pick(41) - 20 & 255, pick(9) - 4 & 255},
            {2, pick(9) - 4 & 255, pick(41) - 20 & 255},
            {3, pick(4)},
            {4, pick(style == 0 ? 12 : 4)},
            {0},
            {pick(256)},
        };
        int[] bytes = commands[pick(commands.length)];
        for (int value : bytes) {
            Check.due(what + "feed(" + value + ")", x.feed(value) ? 1 : 0, m.feed(value) ? 1 : 0);
        }
        return bytes.length;
    }

    private static void pourOrRefill(String what, PlotKernel x, Model m) {
        int pen = pick(3);
        if (pick(2) == 0) {
            Check.due(what + "refill(" + pen + ")", x.refill(pen), m.refill(pen));
        } else {
            int amount = 1 + pick(500);
            Check.due(what + "pour(" + pen + ", " + amount + ")", x.pour(pen, amount), m.pour(pen, amount));
        }
    }

    private static void ask(String what, PlotKernel x, Model m) {
        Check.due(what + "errors", x.errors(), m.errors);
        Check.due(what + "queued", x.queued(), m.queued());
        Check.due(what + "pending", x.pending(), m.pending());
        Check.due(what + "at", x.at(), m.cell);
        Check.due(what + "isDown", x.isDown() ? 1 : 0, m.down ? 1 : 0);
        Check.due(what + "pen", x.pen(), m.pen);
        for (int pen = 0; pen < 3; pen++) {
            Check.due(what + "ink(" + pen + ")", x.ink(pen), m.ink[pen]);
        }
        Check.due(what + "isWaiting", x.isWaiting() ? 1 : 0, m.isWaiting() ? 1 : 0);
        Check.due(what + "timeLeft", x.timeLeft(), m.timeLeft());
        Check.due(what + "stepsUp", x.stepsUp(), m.stepsUp);
        Check.due(what + "stepsDown", x.stepsDown(), m.stepsDown);
        Check.due(what + "marks", x.marks(), m.marked.cardinality());
    }

    private static void compareAll(String what, PlotKernel x, Model m) {
        ask(what, x, m);
        Check.due(what + "marksInTheEnd", x.marksInTheEnd(), m.marksInTheEnd());
        for (int cell = 0; cell < 10000; cell++) {
            Check.due(what + "isMarked " + cell, x.isMarked(cell % 100, cell / 100) ? 1 : 0, m.marked.get(cell) ? 1 : 0);
        }
    }
}
