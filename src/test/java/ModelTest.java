/** All promises at once: runs of 512 calls, each answer compared with the model's. The runs are always the same. */
public final class ModelTest {
    private static final int RUNS = 3000;
    private static final int CALLS = 512;
    private static final int QUESTIONS = 15;

    private static int seed;

    public static void main(String[] args) {
        for (int run = 0; run < RUNS; run++) {
            seed = 7919 * run + 1;
            compare(run);
        }
        Check.end();
    }

    private static int pick(int bound) {
        seed = seed * 1664525 + 1013904223;
        return (int) ((seed >>> 8) * (long) bound >> 24);
    }

    /** Acts and asks, then asks everything once, and cells with what is left of the calls. */
    private static void compare(int run) {
        PlotKernel x = new PlotKernel();
        Model m = new Model();
        int acting = run % 2 == 0 ? CALLS - QUESTIONS : 150 + pick(150);
        int calls = 0;
        while (calls + 3 <= acting) {
            calls += act("run " + run + " call " + (calls + 1) + " ", x, m, run);
        }
        for (int question = 0; question < QUESTIONS; question++) {
            ask("run " + run + " at its end ", x, m, question);
            calls++;
        }
        for (; calls < CALLS; calls++) {
            askCell("run " + run + " ", x, m);
        }
    }

    private static int act(String what, PlotKernel x, Model m, int run) {
        int kind = pick(100);
        if (kind < 30) {
            return feedCommand(what, x, m, run % 4);
        }
        if (kind < 50) {
            int ticks = pick(run % 3 == 0 ? 8 : 120) + 1;
            Check.due(what + "tick(" + ticks + ")", x.tick(ticks), m.tick(ticks));
        } else if (kind < 53) {
            Check.due(what + "cut", x.cut(), m.cut());
        } else if (kind < 56) {
            pourOrRefill(what, x, m);
        } else if (kind < 60) {
            askCell(what, x, m);
        } else {
            ask(what, x, m, pick(QUESTIONS));
        }
        return 1;
    }

    private static int feedCommand(String what, PlotKernel x, Model m, int style) {
        int[][] commands = {
            {1, pick(256), pick(256)},
            {2, pick(256), pick(256)},
            {1 + pick(2), pick(31) - 15 & 255, pick(31) - 15 & 255},
            {2, pick(41) - 20 & 255, pick(9) - 4 & 255},
            {2, pick(9) - 4 & 255, pick(41) - 20 & 255},
            {3, pick(4)},
            {4, pick(style == 0 ? 12 : 4)},
            {0},
            {pick(256)},
        };
        int[] bytes = commands[pick(commands.length)];
        for (int value : bytes) {
            Check.due(what + "feed(" + value + ")", x.feed(value) ? 1 : 0, m.feed(value) ? 1 : 0);
        }
        return bytes.length;
    }

    private static void pourOrRefill(String what, PlotKernel x, Model m) {
        int pen = pick(3);
        if (pick(2) == 0) {
            Check.due(what + "refill(" + pen + ")", x.refill(pen), m.refill(pen));
        } else {
            int amount = 1 + pick(500);
            Check.due(what + "pour(" + pen + ", " + amount + ")", x.pour(pen, amount), m.pour(pen, amount));
        }
    }

    private static void ask(String what, PlotKernel x, Model m, int question) {
        switch (question) {
            case 0 -> Check.due(what + "errors", x.errors(), m.errors);
            case 1 -> Check.due(what + "queued", x.queued(), m.queued());
            case 2 -> Check.due(what + "pending", x.pending(), m.pending());
            case 3 -> Check.due(what + "at", x.at(), m.cell);
            case 4 -> Check.due(what + "isDown", x.isDown() ? 1 : 0, m.down ? 1 : 0);
            case 5 -> Check.due(what + "pen", x.pen(), m.pen);
            case 6 -> Check.due(what + "isWaiting", x.isWaiting() ? 1 : 0, m.isWaiting() ? 1 : 0);
            case 7 -> Check.due(what + "timeLeft", x.timeLeft(), m.timeLeft());
            case 8 -> Check.due(what + "stepsUp", x.stepsUp(), m.stepsUp);
            case 9 -> Check.due(what + "stepsDown", x.stepsDown(), m.stepsDown);
            case 10 -> Check.due(what + "marks", x.marks(), m.marked.cardinality());
            case 11 -> Check.due(what + "marksInTheEnd", x.marksInTheEnd(), m.marksInTheEnd());
            default -> Check.due(what + "ink(" + (question - 12) + ")", x.ink(question - 12), m.ink[question - 12]);
        }
    }

    /** Any cell, or a marked one, or one beside it. */
    private static void askCell(String what, PlotKernel x, Model m) {
        int[] beside = {0, 0, 1, 99, 100, 101};
        int cell = pick(10000);
        if (pick(3) > 0) {
            cell = Math.min(9999, Math.max(0, m.marked.nextSetBit(cell / 4)) + beside[pick(beside.length)]);
        }
        Check.due(what + "isMarked " + cell, x.isMarked(cell % 100, cell / 100) ? 1 : 0, m.marked.get(cell) ? 1 : 0);
    }
}
