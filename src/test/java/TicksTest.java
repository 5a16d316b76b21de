import java.util.List;
import java.util.function.Supplier;

/** Promise 6, tick: what each tick does, and in how many. */
public final class TicksTest {
    public static void main(String[] args) {
        ticksOutOfRange();
        firstAndLastTicks();
        ticksPassOneByOne();
        answersStepsOfBothKinds();
        nothingWithoutCommands();
        theFirstCommandGoesOn();
        changingWithThePenUp();
        changingWithThePenDown();
        changingToTheSamePen();
        movingWithThePenUp();
        movingWithThePenDown();
        drawingWithThePenUp();
        drawingWithThePenDown();
        drawingWithoutInk();
        drawingWithTheLastInk();
        drawingMarks();
        loweringTakesTwoTicks();
        liftingTakesTwoTicks();
        stepsOfACommand();
        cellsOfTheSteps();
        doneBehindTheLastStep();
        Check.end();
    }

    private static void ticksOutOfRange() {
        Check.promise(6, "Throws `IllegalArgumentException` if ticks is out of range");
        int[] wrong = {0, -1, -2, -1000, 1001, 1002, 65537, Integer.MIN_VALUE, Integer.MAX_VALUE};
        for (Supplier<PlotKernel> maker : states()) {
            for (int ticks : wrong) {
                Check.mustThrow("tick(" + ticks + ")", IllegalArgumentException.class, maker, x -> x.tick(ticks));
            }
        }
    }

    private static void firstAndLastTicks() {
        Check.promise(6, "Throws `IllegalArgumentException` if ticks is out of range");
        for (Supplier<PlotKernel> maker : states()) {
            Check.mustNotThrow("tick(1)", maker, x -> x.tick(1));
            Check.mustNotThrow("tick(1000)", maker, x -> x.tick(1000));
        }
    }

    /** Empty; moving, with bytes pending; lowering; drawing; waiting; lifting; changing. */
    private static List<Supplier<PlotKernel>> states() {
        return List.of(
                PlotKernel::new,
                () -> Check.ticked(3, 1, 5, 5, 2, 5),
                () -> Check.ticked(1, 2, 5, 5),
                () -> Check.ticked(4, 2, 5, 5),
                TicksTest::waiting,
                () -> Check.ticked(4, 2, 1, 0, 1, 5, 0),
                () -> Check.ticked(2, 3, 1, 4));
    }

    private static PlotKernel waiting() {
        PlotKernel x = Check.ticked(5, 2, 12, 0);
        x.pour(0, 500);
        return x;
    }

    private static void ticksPassOneByOne() {
        Check.promise(6, "Lets ticks pass.");
        int[] bytes = {1, 99, 0, 2, -99, 1, 3, 2, 1, 99, 98, 2, -99, -98, 3, 2, 2, 99, 98, 1, 0, -20};
        int[] counts = {1, 2, 3, 4, 7, 99, 100, 101, 102, 103, 200, 205, 206, 301, 402, 407, 506, 528, 1000};
        for (int ticks : counts) {
            PlotKernel x = Check.ticked(ticks, bytes);
            PlotKernel y = Check.fed(bytes);
            int steps = 0;
            for (int left = ticks; left > 0; left -= 3) {
                steps += y.tick(Math.min(left, 3));
            }
            Check.yes(ticks + " ticks are as many, three by three", Check.answers(x).equals(Check.answers(y)));
            Check.due("steps of " + ticks + " ticks", x.stepsUp() + x.stepsDown(), steps);
            Check.due("timeLeft behind " + ticks, x.timeLeft(), Math.max(0, 99 + 101 + 5 + 99 + 101 + 5 + 101 + 22 - ticks));
        }
    }

    private static void answersStepsOfBothKinds() {
        Check.promise(6, "Returns how many steps are done in them.");
        PlotKernel x = Check.fed(1, 4, 0, 2, 3, 0, 1, 2, 0);
        int[] steps = {1, 1, 1, 1, 0, 0, 1, 1, 1, 0, 0, 1, 1, 0, 0};
        for (int i = 0; i < steps.length; i++) {
            Check.due("tick " + (i + 1), x.tick(1), steps[i]);
        }
        Check.due("tick(1000)", Check.fed(1, 4, 0, 2, 3, 0, 1, 2, 0).tick(1000), 9);
        Check.due("tick(6)", Check.fed(1, 4, 0, 2, 3, 0, 1, 2, 0).tick(6), 4);
        Check.due("tick(8)", Check.fed(1, 4, 0, 2, 3, 0, 1, 2, 0).tick(8), 6);
        Check.due("tick(1000) of a PEN", Check.fed(3, 1).tick(1000), 0);
        PlotKernel y = Check.ticked(8, 1, 9, 0);
        y.cut();
        Check.due("steps that are done again", y.tick(1000), 9);
    }

    private static void nothingWithoutCommands() {
        Check.promise(6, "Without commands nothing is done.");
        Check.due("tick(1)", new PlotKernel().tick(1), 0);
        Check.due("tick(1000)", new PlotKernel().tick(1000), 0);
        Check.changesNothing("tick(1000) of a new object", PlotKernel::new, x -> x.tick(1000));
        Check.changesNothing("tick(1) with the pen down", () -> Check.ticked(6, 2, 4, 0), x -> x.tick(1));
        Check.changesNothing("tick(1000) with the pen down", () -> Check.ticked(6, 2, 4, 0), x -> x.tick(1000));
        Check.changesNothing("tick(7) with bytes pending", () -> Check.ticked(6, 2, 4, 0, 1, 5), x -> x.tick(7));
        PlotKernel x = Check.ticked(1000, 2, 4, 0);
        Check.yes("the pen stays down", x.isDown());
        Check.feedAll(x, 2, 1, 0);
        Check.due("so the next DRAW is a step at once", x.tick(1), 1);
    }

    private static void theFirstCommandGoesOn() {
        Check.promise(6, "The first command of the queue is the one that goes on; a tick does the first of these that applies");
        PlotKernel x = Check.fed(1, 3, 0, 1, 0, 2, 1, -1, -1);
        int[] at = {1, 2, 3, 103, 203, 102, 102};
        int[] queued = {3, 3, 2, 2, 1, 0, 0};
        for (int i = 0; i < at.length; i++) {
            Check.due("tick", x.tick(1), i < 6 ? 1 : 0);
            Check.due("at behind tick " + (i + 1), x.at(), at[i]);
            Check.due("queued behind tick " + (i + 1), x.queued(), queued[i]);
        }
        Check.due("timeLeft", Check.fed(3, 1, 2, 1, 0, 3, 2, 1, 1, 0).timeLeft(), 3 + 2 + 1 + 2 + 3 + 1);
    }

    private static void promiseOfPen() {
        Check.promise(6, "PEN: if the pen is down, a tick of lifting; otherwise a tick of changing; behind the third one "
                + "the carriage has that pen (also if it had it), and the command is done.");
    }

    private static void changingWithThePenUp() {
        promiseOfPen();
        PlotKernel x = Check.fed(3, 2, 3, 1);
        int[] pen = {0, 0, 2, 2, 2, 1, 1};
        int[] queued = {2, 2, 1, 1, 1, 0, 0};
        for (int i = 0; i < pen.length; i++) {
            Check.due("tick", x.tick(1), 0);
            Check.due("pen behind tick " + (i + 1), x.pen(), pen[i]);
            Check.due("queued behind tick " + (i + 1), x.queued(), queued[i]);
            Check.no("isDown", x.isDown());
        }
        Check.due("at", x.at(), 0);
    }

    private static void changingWithThePenDown() {
        promiseOfPen();
        PlotKernel x = Check.ticked(3, 2, 1, 0, 3, 2, 3, 1);
        int[] down = {1, 0, 0, 0, 0, 0, 0, 0};
        int[] pen = {0, 0, 0, 0, 2, 2, 2, 1};
        int[] queued = {2, 2, 2, 2, 1, 1, 1, 0};
        for (int i = 0; i < pen.length; i++) {
            Check.due("tick", x.tick(1), 0);
            Check.due("isDown behind tick " + (i + 1), x.isDown() ? 1 : 0, down[i]);
            Check.due("pen behind tick " + (i + 1), x.pen(), pen[i]);
            Check.due("queued behind tick " + (i + 1), x.queued(), queued[i]);
        }
        Check.due("marks", x.marks(), 2);
        Check.due("ink", x.ink(0), 499);
    }

    private static void changingToTheSamePen() {
        promiseOfPen();
        PlotKernel x = Check.fed(3, 0, 3, 0);
        int[] queued = {2, 2, 1, 1, 1, 0};
        for (int i = 0; i < queued.length; i++) {
            x.tick(1);
            Check.due("queued behind tick " + (i + 1), x.queued(), queued[i]);
            Check.due("pen", x.pen(), 0);
        }
        PlotKernel y = Check.ticked(3, 2, 1, 0, 3, 0);
        Check.due("it is lifted for the same pen too", y.timeLeft(), 5);
        y.tick(2);
        Check.no("isDown", y.isDown());
        Check.due("queued", y.queued(), 1);
        y.tick(3);
        Check.due("queued", y.queued(), 0);
    }

    private static void movingWithThePenUp() {
        Check.promise(6, "MOVE: if the pen is down, a tick of lifting; otherwise a step.");
        PlotKernel x = Check.fed(1, 2, 1, 1, -1, 0);
        int[] at = {1, 102, 101};
        for (int i = 0; i < at.length; i++) {
            Check.due("tick", x.tick(1), 1);
            Check.due("at behind tick " + (i + 1), x.at(), at[i]);
            Check.no("isDown", x.isDown());
        }
        Check.due("marks", x.marks(), 0);
        Check.due("ink", x.ink(0), 500);
        PlotKernel y = Check.fed(1, 2, 1);
        y.pour(0, 500);
        Check.due("a MOVE takes no ink", y.tick(1000), 2);
    }

    private static void movingWithThePenDown() {
        Check.promise(6, "MOVE: if the pen is down, a tick of lifting; otherwise a step.");
        PlotKernel x = Check.ticked(3, 2, 1, 0, 1, 2, 0, 1, 1, 0);
        int[] steps = {0, 0, 1, 1, 1, 0};
        int[] at = {1, 1, 2, 3, 4, 4};
        for (int i = 0; i < at.length; i++) {
            Check.due("tick " + (i + 1), x.tick(1), steps[i]);
            Check.due("at behind tick " + (i + 1), x.at(), at[i]);
            Check.due("isDown", x.isDown() ? 1 : 0, i == 0 ? 1 : 0);
        }
        Check.due("marks", x.marks(), 2);
        PlotKernel y = Check.ticked(3, 2, 1, 0, 1, 2, 0);
        y.pour(0, 500);
        Check.due("lifting takes no ink", y.tick(4), 2);
    }

    private static void promiseOfDraw() {
        Check.promise(6, "DRAW: if the pen is up, a tick of lowering; otherwise, if the pen has no ink, nothing is done, "
                + "and it waits for ink; otherwise a step, which takes 1 ink, and marks the cell at which the carriage is then.");
    }

    private static void drawingWithThePenUp() {
        promiseOfDraw();
        PlotKernel x = Check.fed(2, 2, 0, 1, 1, 0, 2, 1, 0);
        int[] steps = {0, 0, 1, 1, 0, 0, 1, 0, 0, 1, 0};
        int[] down = {0, 1, 1, 1, 1, 0, 0, 0, 1, 1, 1};
        int[] ink = {500, 500, 499, 498, 498, 498, 498, 498, 498, 497, 497};
        for (int i = 0; i < steps.length; i++) {
            Check.due("tick " + (i + 1), x.tick(1), steps[i]);
            Check.due("isDown behind tick " + (i + 1), x.isDown() ? 1 : 0, down[i]);
            Check.due("ink behind tick " + (i + 1), x.ink(0), ink[i]);
        }
        Check.due("at", x.at(), 4);
    }

    private static void drawingWithThePenDown() {
        promiseOfDraw();
        PlotKernel x = Check.fed(2, 2, 0, 2, 0, 2, 2, -2, 0);
        Check.due("timeLeft", x.timeLeft(), 8);
        Check.due("tick(8)", x.tick(8), 6);
        Check.due("queued", x.queued(), 0);
        Check.due("at", x.at(), 200);
        Check.due("ink", x.ink(0), 494);
    }

    private static void drawingWithoutInk() {
        promiseOfDraw();
        Supplier<PlotKernel> maker = TicksTest::waiting;
        Check.due("tick(1)", maker.get().tick(1), 0);
        Check.due("tick(1000)", maker.get().tick(1000), 0);
        Check.changesNothing("tick(1)", maker, x -> x.tick(1));
        Check.changesNothing("tick(1000)", maker, x -> x.tick(1000));
        PlotKernel x = maker.get();
        x.tick(1000);
        x.refill(1);
        x.refill(2);
        Check.due("another pen's ink does not help", x.tick(1), 0);
        x.refill(0);
        Check.due("its own does, at once", x.tick(1), 1);
    }

    private static void drawingWithTheLastInk() {
        promiseOfDraw();
        for (int ink = 0; ink <= 6; ink++) {
            PlotKernel x = Check.fed(2, 5, 0);
            x.pour(0, 500 - ink);
            int steps = Math.min(ink, 5);
            Check.due("steps with " + ink, x.tick(1000), steps);
            Check.due("ink left of " + ink, x.ink(0), ink - steps);
            Check.due("queued with " + ink, x.queued(), ink < 5 ? 1 : 0);
            Check.due("marks with " + ink, x.marks(), 1 + steps);
        }
        PlotKernel x = Check.fed(2, 99, 0, 2, -99, 0, 2, 99, 0, 2, -99, 0, 2, 99, 0, 2, -99, 0);
        Check.due("the whole ink's steps", x.tick(1000), 500);
        Check.yes("isWaiting", x.isWaiting());
        Check.due("at", x.at(), 94);
        Check.due("ink", x.ink(0), 0);
        Check.due("queued", x.queued(), 1);
    }

    private static void drawingMarks() {
        promiseOfDraw();
        PlotKernel x = Check.ticked(12, 1, 10, 0, 2, -3, 5);
        for (int k = 1; k <= 5; k++) {
            x.tick(1);
            Check.yes("the cell of step " + k, x.isMarked(10 - 3 * k / 5, k));
            Check.due("marks behind step " + k, x.marks(), 1 + k);
        }
        Check.no("a cell beside them", x.isMarked(10, 1 + 1));
    }

    private static void promiseOfLiftingAndLowering() {
        Check.promise(6, "Lifting and lowering take 2 ticks; behind the second one the pen is up, or down; "
                + "lowering marks the cell then, without ink.");
    }

    private static void loweringTakesTwoTicks() {
        promiseOfLiftingAndLowering();
        for (int ink = 0; ink <= 1; ink++) {
            PlotKernel x = Check.ticked(60, 1, 40, 60, 2, 1, 1);
            x.pour(0, 500 - ink);
            Check.due("tick", x.tick(1), 0);
            Check.no("isDown behind one tick", x.isDown());
            Check.due("marks behind one tick", x.marks(), 0);
            Check.due("tick", x.tick(1), 0);
            Check.yes("isDown behind two ticks", x.isDown());
            Check.due("marks behind two ticks", x.marks(), 1);
            Check.yes("the cell's mark", x.isMarked(40, 60));
            Check.due("ink", x.ink(0), ink);
            Check.due("at", x.at(), 6040);
        }
    }

    private static void liftingTakesTwoTicks() {
        promiseOfLiftingAndLowering();
        int[][] next = {{1, 1, 0}, {3, 1}};
        for (int[] command : next) {
            PlotKernel x = Check.ticked(3, 2, 1, 0);
            Check.feedAll(x, command);
            Check.due("tick", x.tick(1), 0);
            Check.yes("isDown behind one tick", x.isDown());
            Check.due("tick", x.tick(1), 0);
            Check.no("isDown behind two ticks", x.isDown());
            Check.due("at", x.at(), 1);
            Check.due("marks", x.marks(), 2);
            Check.due("ink", x.ink(0), 499);
            Check.due("queued", x.queued(), 1);
        }
    }

    private static void stepsOfACommand() {
        Check.promise(6, "A MOVE or DRAW has as many steps as the greater one of dx and dy, without sign.");
        int[] sizes = {0, 1, 2, 9, 10, 49, 50, 98, 99};
        for (int kind = 1; kind <= 2; kind++) {
            for (int dx : sizes) {
                for (int dy : sizes) {
                    for (int signs = 0; signs < 4 && dx + dy > 0; signs++) {
                        int wayX = signs % 2 == 0 ? dx : -dx;
                        int wayY = signs / 2 == 0 ? dy : -dy;
                        PlotKernel x = from(wayX < 0 ? 99 : 0, wayY < 0 ? 99 : 0);
                        Check.feedAll(x, kind, wayX, wayY);
                        Check.due("steps of " + wayX + "," + wayY, x.tick(1000), Math.max(dx, dy));
                    }
                }
            }
        }
    }

    private static void cellsOfTheSteps() {
        Check.promise(6, "Behind its step k the carriage is at the cell where it was ahead of the command, moved by dx "
                + "times k, and dy times k, both divided by the number of steps, rounded toward 0.");
        for (int dx = -19; dx <= 19; dx++) {
            for (int dy = -19; dy <= 19; dy++) {
                cellsOfTheSteps(dx, dy);
            }
        }
        int[][] wide = {{99, 98}, {-99, 98}, {99, -98}, {-99, -98}, {98, -99}, {-50, -99}, {1, -99}, {-99, 1}, {-99, 99}};
        for (int[] way : wide) {
            cellsOfTheSteps(way[0], way[1]);
        }
    }

    private static void cellsOfTheSteps(int dx, int dy) {
        int fromX = dx < 0 ? -dx : 0;
        int fromY = dy < 0 ? -dy : 0;
        int steps = Math.max(Math.abs(dx), Math.abs(dy));
        for (int kind = 1; kind <= 2 && steps > 0; kind++) {
            PlotKernel x = from(fromX, fromY);
            Check.feedAll(x, kind, dx, dy);
            if (kind == 2) {
                x.tick(2);
            }
            for (int k = 1; k <= steps; k++) {
                x.tick(1);
                int cellX = fromX + (int) ((double) dx * k / steps);
                int cellY = fromY + (int) ((double) dy * k / steps);
                Check.due("at behind step " + k + " of " + dx + "," + dy, x.at(), 100 * cellY + cellX);
            }
        }
    }

    private static PlotKernel from(int x, int y) {
        return x == 0 && y == 0 ? new PlotKernel() : Check.ticked(1000, 1, x, y);
    }

    private static void doneBehindTheLastStep() {
        Check.promise(6, "Behind its last step it is done.");
        for (int kind = 1; kind <= 2; kind++) {
            for (int size = 1; size <= 99; size++) {
                PlotKernel x = Check.fed(kind, size, size / 2, 1, 0, 1);
                x.tick(kind == 1 ? size : size + 2);
                Check.due("queued behind all " + size + " steps", x.queued(), 1);
                Check.due("at", x.at(), 100 * (size / 2) + size);
                PlotKernel y = Check.ticked(kind == 1 ? size : size + 1, kind, size, size / 2, 1, 0, 1);
                Check.due("queued ahead of them", y.queued(), kind == 1 ? 1 : 2);
            }
        }
    }
}
