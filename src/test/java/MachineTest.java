/** Promises 10 to 12 and 15 to 17: at, isDown, pen, timeLeft, stepsUp, stepsDown. */
public final class MachineTest {
    public static void main(String[] args) {
        atTheCorners();
        atXAndY();
        atBetweenTheSteps();
        downOrUp();
        penOfTheCarriage();
        timeLeftOfNothing();
        timeLeftOfEachCommand();
        timeLeftTickByTick();
        timeLeftOfManyCommands();
        timeLeftWithoutInk();
        timeLeftOfMoreStepsThanInk();
        timeLeftBehindACut();
        stepsAtFirst();
        stepsUpOnly();
        stepsDownOnly();
        stepsDoneAgainUp();
        stepsDoneAgainDown();
        stepsOfALongRun();
        Check.end();
    }

    private static void atTheCorners() {
        Check.promise(10, "Returns 100 times y, and x, added.");
        Check.due("at 0,0", new PlotKernel().at(), 0);
        Check.due("at 99,0", Check.ticked(99, 1, 99, 0).at(), 99);
        Check.due("at 0,99", Check.ticked(99, 1, 0, 99).at(), 9900);
        Check.due("at 99,99", Check.ticked(99, 1, 99, 99).at(), 9999);
        Check.due("at 0,0 again", Check.ticked(198, 1, 99, 99, 1, -99, -99).at(), 0);
    }

    private static void atXAndY() {
        Check.promise(10, "Returns 100 times y, and x, added.");
        for (int kind = 1; kind <= 2; kind++) {
            for (int i = 1; i <= 99; i++) {
                Check.due("at " + i + "," + (99 - i), Check.ticked(1000, kind, i, 99 - i).at(), 100 * (99 - i) + i);
            }
        }
    }

    private static void atBetweenTheSteps() {
        Check.promise(10, "Returns where the carriage is.");
        PlotKernel x = Check.fed(2, 3, 1, 1, 0, 1, 3, 1);
        int[] at = {0, 0, 1, 2, 103, 103, 103, 203, 203, 203, 203};
        for (int i = 0; i < at.length; i++) {
            x.tick(1);
            Check.due("at behind tick " + (i + 1), x.at(), at[i]);
        }
        PlotKernel y = Check.ticked(15, 1, 30, 30);
        y.cut();
        Check.due("at behind a cut", y.at(), 1010);
    }

    private static void downOrUp() {
        Check.promise(11, "Tells whether the pen is down.");
        PlotKernel x = Check.fed(2, 1, 0, 2, 1, 0, 3, 0, 1, 1, 0, 2, 1, 0);
        int[] down = {0, 1, 1, 1, 1, 0, 0, 0, 0, 0, 0, 1, 1, 1};
        for (int i = 0; i < down.length; i++) {
            x.tick(1);
            Check.due("isDown behind tick " + (i + 1), x.isDown() ? 1 : 0, down[i]);
        }
        x.pour(0, 500);
        Check.yes("an empty pen is down still", x.isDown());
        x.cut();
        Check.no("isDown behind a cut", x.isDown());
    }

    private static void penOfTheCarriage() {
        Check.promise(12, "Returns the pen that the carriage has.");
        for (int from = 0; from <= 2; from++) {
            for (int to = 0; to <= 2; to++) {
                PlotKernel x = Check.ticked(3, 3, from, 3, to);
                Check.due("pen", x.pen(), from);
                x.tick(2);
                Check.due("pen while it is changed", x.pen(), from);
                x.tick(1);
                Check.due("pen behind the change", x.pen(), to);
                x.pour(to, 500);
                Check.due("an empty pen is had still", x.pen(), to);
                Check.feedAll(x, 3, 3, 3, 255);
                x.tick(1000);
                Check.due("a wrong PEN changes nothing", x.pen(), to);
            }
        }
    }

    private static void promiseOfTimeLeft() {
        Check.promise(15, "Returns how many ticks it would take until no command is queued, if ink was never lacking, "
                + "and no byte came.");
    }

    private static void timeLeftOfNothing() {
        promiseOfTimeLeft();
        Check.due("timeLeft of a new object", new PlotKernel().timeLeft(), 0);
        Check.due("timeLeft of bytes pending", Check.fed(2, 5).timeLeft(), 0);
        Check.due("timeLeft of errors", Check.fed(99, 1, 0, 0, 3, 3, 4, 1).timeLeft(), 0);
        Check.due("timeLeft with the pen down", Check.ticked(1000, 2, 5, 5).timeLeft(), 0);
        PlotKernel x = Check.fed(1, 4, 0, 1, 4);
        Check.due("timeLeft of a MOVE, and bytes pending", x.timeLeft(), 4);
    }

    private static void timeLeftOfEachCommand() {
        promiseOfTimeLeft();
        Check.due("MOVE", Check.fed(1, 99, 1).timeLeft(), 99);
        Check.due("DRAW", Check.fed(2, 1, 99).timeLeft(), 2 + 99);
        Check.due("PEN", Check.fed(3, 0).timeLeft(), 3);
        Check.due("MOVE with the pen down", downThen(1, 1, 0).timeLeft(), 2 + 1);
        Check.due("DRAW with the pen down", downThen(2, 1, 0).timeLeft(), 1);
        Check.due("PEN with the pen down", downThen(3, 2).timeLeft(), 2 + 3);
        Check.due("MOVE, MOVE", Check.fed(1, 1, 0, 1, 1, 0).timeLeft(), 1 + 1);
        Check.due("MOVE, PEN", Check.fed(1, 1, 0, 3, 1).timeLeft(), 1 + 3);
        Check.due("MOVE, DRAW", Check.fed(1, 1, 0, 2, 1, 0).timeLeft(), 1 + 2 + 1);
        Check.due("PEN, PEN", Check.fed(3, 1, 3, 1).timeLeft(), 3 + 3);
        Check.due("PEN, DRAW", Check.fed(3, 1, 2, 1, 0).timeLeft(), 3 + 2 + 1);
        Check.due("PEN, MOVE", Check.fed(3, 1, 1, 1, 0).timeLeft(), 3 + 1);
        Check.due("DRAW, MOVE", Check.fed(2, 1, 0, 1, 1, 0).timeLeft(), 2 + 1 + 2 + 1);
        Check.due("DRAW, PEN", Check.fed(2, 1, 0, 3, 1).timeLeft(), 2 + 1 + 2 + 3);
        Check.due("DRAW, DRAW", Check.fed(2, 1, 0, 2, 1, 0).timeLeft(), 2 + 1 + 1);
    }

    /** The pen is down, no command is queued, and then these bytes are fed. */
    private static PlotKernel downThen(int... bytes) {
        PlotKernel x = Check.ticked(3, 2, 1, 0);
        Check.feedAll(x, bytes);
        return x;
    }

    private static void timeLeftTickByTick() {
        promiseOfTimeLeft();
        PlotKernel x = Check.fed(1, 10, 4, 2, 3, 7, 2, 1, 0, 3, 1, 2, 0, 2, 1, 1, 1);
        for (int left = 10 + 2 + 7 + 1 + 2 + 3 + 2 + 2 + 2 + 1; left > 0; left--) {
            Check.due("timeLeft", x.timeLeft(), left);
            Check.yes("queued", x.queued() > 0);
            x.tick(1);
        }
        Check.due("timeLeft", x.timeLeft(), 0);
        Check.due("queued", x.queued(), 0);
    }

    private static void timeLeftOfManyCommands() {
        promiseOfTimeLeft();
        PlotKernel x = Check.fed(2, 2, 1, 4, 6, 4, 9);
        Check.due("timeLeft of 16", x.timeLeft(), 2 + 32);
        x.tick(33);
        Check.due("timeLeft of the last step", x.timeLeft(), 1);
        Check.due("queued", x.queued(), 1);
        PlotKernel y = Check.fed(2, 99, 99, 1, -99, -99, 2, 99, 0, 1, -99, 0, 2, 0, 99, 1, 0, -99, 2, 99, 0, 1, -99, 0);
        Check.due("timeLeft above 255", y.timeLeft(), 4 * 101 + 4 * 101);
        y.tick(1000);
        Check.due("timeLeft", y.timeLeft(), 0);
    }

    private static void timeLeftWithoutInk() {
        promiseOfTimeLeft();
        PlotKernel x = Check.fed(2, 5, 0, 1, 5, 0);
        x.pour(0, 500);
        Check.due("timeLeft", x.timeLeft(), 2 + 5 + 2 + 5);
        x.tick(500);
        Check.yes("isWaiting", x.isWaiting());
        Check.due("timeLeft while it waits", x.timeLeft(), 5 + 2 + 5);
        x.tick(500);
        Check.due("timeLeft behind more waiting", x.timeLeft(), 5 + 2 + 5);
        x.refill(0);
        Check.due("timeLeft with ink", x.timeLeft(), 5 + 2 + 5);
        x.tick(12);
        Check.due("timeLeft", x.timeLeft(), 0);
    }

    private static void timeLeftOfMoreStepsThanInk() {
        promiseOfTimeLeft();
        PlotKernel x = Check.fed(2, 99, 0, 2, -99, 0, 2, 99, 0, 2, -99, 0, 2, 99, 0, 2, -99, 0);
        Check.due("timeLeft", x.timeLeft(), 2 + 6 * 99);
        x.tick(1000);
        Check.due("timeLeft behind the last ink", x.timeLeft(), 94);
        x.refill(0);
        x.tick(93);
        Check.due("timeLeft", x.timeLeft(), 1);
    }

    private static void timeLeftBehindACut() {
        promiseOfTimeLeft();
        for (int done = 0; done <= 24; done++) {
            PlotKernel x = Check.ticked(2 + done, 2, 25, 0, 2, 3, 0, 3, 2);
            Check.due("timeLeft behind " + done, x.timeLeft(), 25 - done + 3 + 2 + 3);
            x.cut();
            Check.due("timeLeft behind " + done + " and a cut", x.timeLeft(), 2 + 25 - done / 10 * 10 + 3 + 2 + 3);
        }
    }

    private static void promiseOfStepsUp() {
        Check.promise(16, "Returns how many steps were done with the pen up, those that were done again counted each time.");
    }

    private static void stepsAtFirst() {
        promiseOfStepsUp();
        PlotKernel x = Check.fed(1, 5, 0, 2, 5, 0);
        Check.due("stepsUp", x.stepsUp(), 0);
        Check.due("stepsDown", x.stepsDown(), 0);
        PlotKernel y = Check.ticked(1000, 3, 1, 3, 2);
        Check.due("a PEN has no steps up", y.stepsUp(), 0);
        Check.due("a PEN has no steps down", y.stepsDown(), 0);
    }

    private static void stepsUpOnly() {
        promiseOfStepsUp();
        PlotKernel x = Check.fed(1, 2, 9, 2, 4, 0, 1, 3, 0);
        int[] up = {1, 2, 3, 4, 5, 6, 7, 8, 9, 9, 9, 9, 9, 9, 9, 9, 9, 10, 11, 12, 12};
        for (int i = 0; i < up.length; i++) {
            x.tick(1);
            Check.due("stepsUp behind tick " + (i + 1), x.stepsUp(), up[i]);
        }
    }

    private static void stepsDownOnly() {
        Check.promise(17, "Returns the same with the pen down.");
        PlotKernel x = Check.fed(2, 2, 4, 1, 3, 0, 2, 1, 0);
        int[] down = {0, 0, 1, 2, 3, 4, 4, 4, 4, 4, 4, 4, 4, 5, 5};
        for (int i = 0; i < down.length; i++) {
            x.tick(1);
            Check.due("stepsDown behind tick " + (i + 1), x.stepsDown(), down[i]);
        }
        x.pour(0, 500);
        Check.feedAll(x, 2, 4, 4);
        x.tick(1000);
        Check.due("without ink no step is done", x.stepsDown(), 5);
    }

    private static void stepsDoneAgainUp() {
        promiseOfStepsUp();
        PlotKernel x = Check.fed(1, 18, 0, 2, 8, 0);
        for (int i = 1; i <= 3; i++) {
            x.tick(7);
            Check.due("cut", x.cut(), 7);
            Check.due("stepsUp behind cut " + i, x.stepsUp(), 7 * i);
        }
        x.tick(17);
        Check.due("cut", x.cut(), 7);
        Check.due("stepsUp", x.stepsUp(), 21 + 17);
        x.tick(1000);
        Check.due("stepsUp", x.stepsUp(), 21 + 17 + 8);
        Check.due("stepsDown", x.stepsDown(), 8);
    }

    private static void stepsDoneAgainDown() {
        Check.promise(17, "Returns the same with the pen down.");
        PlotKernel x = Check.fed(2, 18, 0, 1, 8, 0);
        for (int i = 1; i <= 3; i++) {
            x.tick(9);
            Check.due("cut", x.cut(), 7);
            Check.due("stepsDown behind cut " + i, x.stepsDown(), 7 * i);
            Check.due("ink behind cut " + i, x.ink(0), 500 - 7 * i);
        }
        x.tick(1000);
        Check.due("stepsDown", x.stepsDown(), 21 + 18);
        Check.due("stepsUp", x.stepsUp(), 8);
    }

    private static void stepsOfALongRun() {
        promiseOfStepsUp();
        PlotKernel x = new PlotKernel();
        int calls = 0;
        for (int i = 0; i < 20; i++) {
            Check.feedAll(x, 1, 99, 0, 1, -99, 0, 1, 0, 99, 1, 0, -99, 1, 99, 99, 1, -99, -99, 1, 50, 99, 1, -50, -99);
            Check.due("tick", x.tick(1000), 8 * 99);
            calls += 25;
        }
        Check.due("stepsUp behind " + calls + " calls", x.stepsUp(), 20 * 8 * 99);
        Check.due("stepsDown", x.stepsDown(), 0);
    }
}
