/** Promises 6 and 7, tick and cut, with what they show of 10 to 12 and 15 to 17. */
public final class TicksTest {
    public static void main(String[] args) {
        ticksOutOfRange();
        nothingWithoutCommands();
        movesStepByStep();
        stepsAreRoundedTowardZero();
        loweringTakesTwoTicks();
        liftingTakesTwoTicks();
        changingTakesThreeTicks();
        changingToTheSamePen();
        aDrawBehindADrawStaysDown();
        tickAnswersStepsOfBothKinds();
        cutGoesBackToTheJournal();
        cutOfAMove();
        cutForgetsTurning();
        cutForgetsChanging();
        cutWithoutCommands();
        cutLosesPendingBytes();
        cutKeepsTheRest();
        timeLeftOfAll();
        timeLeftDoesNotWaitForInk();
        stepsDoneAgainAreCounted();
        Check.end();
    }

    private static void ticksOutOfRange() {
        PlotKernel x = Check.fed(1, 5, 5, 2, 5, 5, 1);
        x.tick(8);
        int[] wrong = {0, -1, 1001, -1000, Integer.MIN_VALUE, Integer.MAX_VALUE};
        for (int ticks : wrong) {
            Check.mustThrow("tick(" + ticks + ")", IllegalArgumentException.class, x, () -> x.tick(ticks));
        }
        Check.due("tick(1)", x.tick(1), 1);
        Check.due("tick(1000)", x.tick(1000), 3);
    }

    private static void nothingWithoutCommands() {
        PlotKernel x = Check.fed(2, 4, 0);
        x.tick(6);
        String before = Check.everything(x);
        Check.due("tick", x.tick(1000), 0);
        Check.yes("nothing is done", before.equals(Check.everything(x)));
        Check.yes("the pen stays down", x.isDown());
    }

    private static void movesStepByStep() {
        PlotKernel x = Check.fed(1, 3, 0, 1, 0, 2, 1, -1, -1);
        int[] at = {1, 2, 3, 103, 203, 102, 102};
        int[] queued = {3, 3, 2, 2, 1, 0, 0};
        for (int i = 0; i < at.length; i++) {
            Check.due("tick", x.tick(1), i < 6 ? 1 : 0);
            Check.due("at behind tick " + i, x.at(), at[i]);
            Check.due("queued behind tick " + i, x.queued(), queued[i]);
        }
        Check.due("marks", x.marks(), 0);
        Check.due("stepsUp", x.stepsUp(), 6);
        Check.due("stepsDown", x.stepsDown(), 0);
    }

    private static void stepsAreRoundedTowardZero() {
        int[][] ways = {{7, 3}, {-7, 3}, {7, -3}, {-7, -3}, {3, 7}, {-3, 7}, {3, -7}, {-3, -7}, {5, 5}, {-9, 9}, {-40, 1}, {1, -40}};
        for (int kind = 1; kind <= 2; kind++) {
            for (int[] way : ways) {
                PlotKernel x = Check.fed(1, 50, 50, kind, way[0], way[1]);
                x.tick(kind == 1 ? 50 : 52);
                int steps = Math.max(Math.abs(way[0]), Math.abs(way[1]));
                for (int k = 1; k <= steps; k++) {
                    Check.due("tick", x.tick(1), 1);
                    int wantX = 50 + (int) ((double) way[0] * k / steps);
                    int wantY = 50 + (int) ((double) way[1] * k / steps);
                    Check.due("at of " + way[0] + "," + way[1] + " step " + k, x.at(), 100 * wantY + wantX);
                    Check.due("queued", x.queued(), k < steps ? 1 : 0);
                }
            }
        }
    }

    private static void loweringTakesTwoTicks() {
        PlotKernel x = Check.fed(2, 1, 1);
        Check.due("tick", x.tick(1), 0);
        Check.no("isDown", x.isDown());
        Check.due("marks", x.marks(), 0);
        Check.due("tick", x.tick(1), 0);
        Check.yes("isDown", x.isDown());
        Check.yes("lowering marks", x.isMarked(0, 0));
        Check.due("without ink", x.ink(0), 500);
        Check.due("tick", x.tick(1), 1);
        Check.due("ink", x.ink(0), 499);
        Check.yes("the step marks", x.isMarked(1, 1));
        Check.due("at", x.at(), 101);
        Check.due("queued", x.queued(), 0);
        Check.yes("the pen stays down", x.isDown());
    }

    private static void liftingTakesTwoTicks() {
        PlotKernel x = Check.fed(2, 1, 0, 1, 1, 0, 1, 1, 0);
        x.tick(3);
        Check.due("tick", x.tick(1), 0);
        Check.yes("isDown behind one tick", x.isDown());
        Check.due("tick", x.tick(1), 0);
        Check.no("isDown behind two ticks", x.isDown());
        Check.due("at", x.at(), 1);
        Check.due("tick", x.tick(1), 1);
        Check.due("at", x.at(), 2);
        Check.due("the next MOVE lifts no more", x.tick(1), 1);
        Check.due("marks", x.marks(), 2);
        Check.due("ink", x.ink(0), 499);
    }

    private static void changingTakesThreeTicks() {
        PlotKernel x = Check.fed(2, 1, 0, 3, 2, 3, 1);
        x.tick(3);
        boolean[] down = {true, false, false, false, false, false, false, false};
        int[] pen = {0, 0, 0, 0, 2, 2, 2, 1};
        int[] queued = {2, 2, 2, 2, 1, 1, 1, 0};
        for (int i = 0; i < pen.length; i++) {
            Check.due("timeLeft ahead of tick " + i, x.timeLeft(), 8 - i);
            Check.due("tick", x.tick(1), 0);
            Check.due("isDown behind tick " + i, x.isDown() ? 1 : 0, down[i] ? 1 : 0);
            Check.due("pen behind tick " + i, x.pen(), pen[i]);
            Check.due("queued behind tick " + i, x.queued(), queued[i]);
        }
        Check.due("at", x.at(), 1);
    }

    private static void changingToTheSamePen() {
        PlotKernel x = Check.fed(3, 0, 3, 0);
        x.tick(2);
        Check.due("queued", x.queued(), 2);
        x.tick(1);
        Check.due("queued", x.queued(), 1);
        Check.due("pen", x.pen(), 0);
        x.tick(3);
        Check.due("queued", x.queued(), 0);
    }

    private static void aDrawBehindADrawStaysDown() {
        PlotKernel x = Check.fed(2, 2, 0, 2, 0, 2, 2, -2, 0);
        Check.due("timeLeft", x.timeLeft(), 8);
        Check.due("tick", x.tick(8), 6);
        Check.due("queued", x.queued(), 0);
        Check.due("at", x.at(), 200);
        Check.due("ink", x.ink(0), 494);
    }

    private static void tickAnswersStepsOfBothKinds() {
        PlotKernel x = Check.fed(1, 4, 0, 2, 3, 0, 1, 2, 0);
        Check.due("tick", x.tick(1000), 9);
        Check.due("stepsUp", x.stepsUp(), 6);
        Check.due("stepsDown", x.stepsDown(), 3);
    }

    private static void cutGoesBackToTheJournal() {
        for (int done = 0; done <= 99; done++) {
            PlotKernel x = Check.fed(2, 99, 50);
            if (done < 99) {
                x.tick(2 + done);
            } else {
                x.tick(1000);
            }
            int kept = done == 99 ? 99 : done / 10 * 10;
            Check.due("cut behind " + done, x.cut(), done - kept);
            Check.due("at behind " + done, x.at(), 100 * (50 * kept / 99) + kept);
            Check.no("the pen is up", x.isDown());
            Check.due("queued", x.queued(), done == 99 ? 0 : 1);
            Check.due("timeLeft", x.timeLeft(), done == 99 ? 0 : 2 + 99 - kept);
            Check.due("a second cut", x.cut(), 0);
        }
    }

    private static void cutOfAMove() {
        PlotKernel x = Check.fed(1, 0, 35, 1, 25, 0);
        x.tick(34);
        Check.due("cut", x.cut(), 4);
        Check.due("at", x.at(), 3000);
        Check.due("tick", x.tick(5), 5);
        Check.due("at", x.at(), 3500);
        Check.due("a command that is done is not done again", x.cut(), 0);
        Check.due("at", x.at(), 3500);
        x.tick(19);
        Check.due("steps count from each command on", x.cut(), 9);
        Check.due("at", x.at(), 3510);
        Check.due("stepsUp", x.stepsUp(), 34 + 5 + 19);
    }

    private static void cutForgetsTurning() {
        PlotKernel x = Check.fed(2, 20, 0, 1, 1, 0);
        x.tick(1);
        x.cut();
        x.tick(1);
        Check.no("lowering begins anew", x.isDown());
        x.tick(1);
        Check.yes("lowered", x.isDown());
        x.tick(20);
        x.tick(1);
        Check.due("a tick of lifting is begun", x.timeLeft(), 2);
        x.cut();
        Check.no("the cut lifts", x.isDown());
        Check.due("timeLeft", x.timeLeft(), 1);
        Check.due("tick", x.tick(1), 1);
        Check.due("at", x.at(), 21);
    }

    private static void cutForgetsChanging() {
        PlotKernel x = Check.fed(3, 2);
        x.tick(2);
        Check.due("cut", x.cut(), 0);
        Check.due("timeLeft", x.timeLeft(), 3);
        x.tick(2);
        Check.due("pen", x.pen(), 0);
        x.tick(1);
        Check.due("pen", x.pen(), 2);
        x.cut();
        Check.due("the carriage keeps its pen", x.pen(), 2);
    }

    private static void cutWithoutCommands() {
        PlotKernel x = Check.fed(2, 5, 5);
        x.tick(1000);
        Check.yes("isDown", x.isDown());
        Check.due("cut", x.cut(), 0);
        Check.no("isDown", x.isDown());
        Check.due("at", x.at(), 505);
        Check.feedAll(x, 2, 1, 0);
        Check.due("it is lowered again", x.timeLeft(), 3);
    }

    private static void cutLosesPendingBytes() {
        PlotKernel x = Check.fed(1, 5);
        x.cut();
        Check.due("pending", x.pending(), 0);
        Check.feedAll(x, 3, 1);
        Check.due("queued", x.queued(), 1);
        Check.feedAll(x, 4);
        x.cut();
        Check.feedAll(x, 2, 9, 9);
        Check.due("queued", x.queued(), 2);
        Check.due("errors", x.errors(), 0);
    }

    private static void cutKeepsTheRest() {
        PlotKernel x = Check.fed(99, 2, 15, 0, 3, 1, 1, 0, 5);
        x.tick(14);
        Check.due("cut", x.cut(), 2);
        Check.due("errors", x.errors(), 1);
        Check.due("queued", x.queued(), 3);
        Check.due("ink is not given back", x.ink(0), 488);
        Check.due("marks stay", x.marks(), 13);
        Check.due("stepsDown", x.stepsDown(), 12);
        Check.due("marksInTheEnd", x.marksInTheEnd(), 16);
    }

    private static void timeLeftOfAll() {
        PlotKernel x = Check.fed(1, 10, 4, 2, 3, 7, 2, 1, 0, 3, 1, 2, 0, 2, 1, 1, 1);
        int due = 10 + 2 + 7 + 1 + 2 + 3 + 2 + 2 + 2 + 1;
        while (due > 0) {
            Check.due("timeLeft", x.timeLeft(), due);
            Check.yes("queued", x.queued() > 0);
            x.tick(1);
            due--;
        }
        Check.due("timeLeft", x.timeLeft(), 0);
        Check.due("queued", x.queued(), 0);
        Check.feedAll(x, 2, 1);
        Check.due("a command that is not whole takes no time", x.timeLeft(), 0);
    }

    private static void timeLeftDoesNotWaitForInk() {
        PlotKernel x = Check.fed(2, 5, 0, 1, 5, 0);
        x.pour(0, 500);
        Check.due("timeLeft", x.timeLeft(), 2 + 5 + 2 + 5);
        x.tick(500);
        Check.yes("isWaiting", x.isWaiting());
        Check.due("timeLeft", x.timeLeft(), 5 + 2 + 5);
        x.refill(0);
        x.tick(12);
        Check.due("timeLeft", x.timeLeft(), 0);
    }

    private static void stepsDoneAgainAreCounted() {
        PlotKernel x = Check.fed(1, 8, 0, 2, 8, 0);
        for (int i = 0; i < 3; i++) {
            x.tick(7);
            Check.due("cut", x.cut(), 7);
        }
        Check.due("stepsUp", x.stepsUp(), 21);
        x.tick(8);
        Check.due("stepsUp", x.stepsUp(), 29);
        for (int i = 0; i < 3; i++) {
            Check.due("tick", x.tick(5), 3);
            Check.due("cut", x.cut(), 3);
        }
        Check.due("stepsUp", x.stepsUp(), 29);
        Check.due("stepsDown", x.stepsDown(), 9);
        Check.due("ink", x.ink(0), 491);
        x.tick(1000);
        Check.due("stepsDown", x.stepsDown(), 17);
    }
}
