/** Promise 2, feed, as far as it says which commands are right, and what REPEAT queues. */
public final class RightCommandsTest {
    public static void main(String[] args) {
        signedBytes();
        motionsByNothing();
        motionsOnAndOffThePaper();
        theEndIsNotTheCarriage();
        theEndWithoutCommands();
        theEndBehindACut();
        theEndBehindARepeat();
        errorsAreForgotten();
        pens();
        aPenLeavesTheEnd();
        repeatNumbers();
        repeatNeedsACommand();
        repeatOfACommandDoneOrNot();
        repeatOfTheLatest();
        repeatBehindACut();
        repeatTriesOneAfterTheOther();
        repeatWithEachTryAnError();
        repeatGoesBeyondEight();
        repeatedOnesAreNotTheLatest();
        Check.end();
    }

    private static void signedBytes() {
        Check.promise(2, "1 (MOVE) and 2 (DRAW) are followed by two bytes, dx and dy, as numbers from -128 to 127 "
                + "(a byte above 127 is 256 less)");
        int[][] corners = {{0, 0}, {99, 0}, {0, 99}, {99, 99}, {50, 50}};
        for (int[] corner : corners) {
            for (int value = 0; value <= 255; value++) {
                int way = value <= 127 ? value : value - 256;
                int due = way == 0 || corner[0] + way < 0 || corner[0] + way > 99 ? -1 : 100 * corner[1] + corner[0] + way;
                signedByte(corner, value, 0, due);
                due = way == 0 || corner[1] + way < 0 || corner[1] + way > 99 ? -1 : 100 * (corner[1] + way) + corner[0];
                signedByte(corner, 0, value, due);
            }
        }
    }

    private static void signedByte(int[] corner, int dx, int dy, int due) {
        for (int kind = 1; kind <= 2; kind++) {
            PlotKernel x = new PlotKernel();
            if (corner[0] > 0 || corner[1] > 0) {
                Check.feedAll(x, 1, corner[0], corner[1]);
                x.tick(1000);
            }
            String what = kind + " " + dx + " " + dy + " from " + corner[0] + "," + corner[1];
            Check.feedAll(x, kind, dx, dy);
            Check.due("queued of " + what, x.queued(), due < 0 ? 0 : 1);
            Check.due("errors of " + what, x.errors(), due < 0 ? 1 : 0);
            x.tick(1000);
            Check.due("at behind " + what, x.at(), due < 0 ? 100 * corner[1] + corner[0] : due);
        }
    }

    private static void promiseOfRightMotions() {
        Check.promise(2, "MOVE and DRAW are right if dx and dy are not both 0, and the end of the queue moved by them "
                + "is on the paper.");
    }

    private static void motionsByNothing() {
        promiseOfRightMotions();
        for (int kind = 1; kind <= 2; kind++) {
            PlotKernel x = Check.fed(1, 5, 5, kind, 0, 0);
            Check.due("errors of 0 and 0", x.errors(), 1);
            Check.due("queued of 0 and 0", x.queued(), 1);
            Check.feedAll(x, kind, 0, 1, kind, 1, 0, kind, 0, -1, kind, -1, 0);
            Check.due("errors if one of them is 0", x.errors(), 1);
            Check.due("queued if one of them is 0", x.queued(), 5);
        }
    }

    private static void motionsOnAndOffThePaper() {
        promiseOfRightMotions();
        int[][] off = {{100, 0}, {0, 100}, {-1, 0}, {0, -1}, {-1, 5}, {5, -1}, {100, 100}, {99, 100}, {100, 99}, {-1, -1}};
        for (int kind = 1; kind <= 2; kind++) {
            for (int[] way : off) {
                PlotKernel x = Check.fed(kind, way[0], way[1]);
                Check.due("errors of " + way[0] + "," + way[1], x.errors(), 1);
                Check.due("queued of " + way[0] + "," + way[1], x.queued(), 0);
            }
            PlotKernel x = Check.fed(kind, 99, 0, kind, 0, 99, kind, -99, 0, kind, 0, -99, kind, 99, 99);
            Check.due("errors among the corners", x.errors(), 0);
            Check.due("queued among the corners", x.queued(), 5);
            Check.feedAll(x, kind, 1, 0, kind, 0, 1, kind, 1, 1, kind, -100, 0, kind, 0, -100);
            Check.due("errors beyond the last corner", x.errors(), 5);
            Check.feedAll(x, kind, -99, -99);
            Check.due("queued with the way back", x.queued(), 6);
        }
    }

    private static void theEndIsNotTheCarriage() {
        Check.promise(2, "The end of the queue is the cell at which the carriage will be behind all queued commands.");
        PlotKernel x = Check.ticked(30, 1, 60, 0);
        Check.feedAll(x, 1, 40, 0);
        Check.due("60 and 40 are off the paper", x.errors(), 1);
        Check.feedAll(x, 1, 39, 0);
        Check.due("60 and 39 are on it", x.errors(), 1);
        Check.feedAll(x, 2, -99, 0);
        Check.due("back to 0", x.errors(), 1);
        Check.feedAll(x, 2, -1, 0);
        Check.due("and beyond it, though the carriage is at 30", x.errors(), 2);
        Check.due("queued", x.queued(), 3);
    }

    private static void theEndWithoutCommands() {
        Check.promise(2, "The end of the queue is the cell at which the carriage will be behind all queued commands.");
        PlotKernel x = Check.ticked(1000, 1, 99, 40);
        Check.due("queued", x.queued(), 0);
        Check.feedAll(x, 1, 1, 0, 1, 0, 60, 1, 0, -41);
        Check.due("it is the carriage's cell", x.errors(), 3);
        Check.feedAll(x, 1, 0, 59, 1, 0, -99);
        Check.due("queued", x.queued(), 2);
    }

    private static void theEndBehindACut() {
        Check.promise(2, "The end of the queue is the cell at which the carriage will be behind all queued commands.");
        PlotKernel x = Check.ticked(17, 1, 60, 0);
        x.cut();
        Check.due("at", x.at(), 10);
        Check.feedAll(x, 1, 40, 0);
        Check.due("60 and 40", x.errors(), 1);
        Check.feedAll(x, 1, 39, 0);
        Check.due("60 and 39", x.errors(), 1);
        x.tick(1000);
        Check.due("at", x.at(), 99);
        Check.feedAll(x, 1, -99, 1);
        Check.due("errors", x.errors(), 1);
    }

    private static void theEndBehindARepeat() {
        Check.promise(2, "The end of the queue is the cell at which the carriage will be behind all queued commands.");
        PlotKernel x = Check.fed(1, 10, 11, 4, 5, 1, 40, 0);
        Check.due("60 and 40", x.errors(), 1);
        Check.feedAll(x, 1, 39, 33);
        Check.due("queued", x.queued(), 7);
        x.tick(1000);
        Check.due("at", x.at(), 9999);
    }

    private static void errorsAreForgotten() {
        Check.promise(2, "When a command is whole, it is queued, if it is right; otherwise it is an error, and forgotten.");
        PlotKernel x = Check.fed(1, 90, 0);
        Check.feedAll(x, 1, 50, 0, 2, 9, 0);
        Check.due("a wrong one leaves the end of the queue", x.errors(), 1);
        Check.due("queued", x.queued(), 2);
        Check.feedAll(x, 2, 1, 0);
        Check.due("errors", x.errors(), 2);
        Check.alike("behind an error it is as without it, but for the error",
                () -> Check.fed(2, 5, 5, 1, 100, 0, 7), () -> Check.fed(2, 5, 5, 7, 7));
        Check.alike("so it is behind a wrong PEN", () -> Check.fed(2, 5, 5, 3, 3), () -> Check.fed(2, 5, 5, 7));
        Check.alike("and behind a wrong REPEAT", () -> Check.fed(2, 5, 5, 4, 0), () -> Check.fed(2, 5, 5, 7));
        Check.alike("and behind a motion by nothing", () -> Check.fed(2, 5, 5, 1, 0, 0), () -> Check.fed(2, 5, 5, 7));
    }

    private static void pens() {
        Check.promise(2, "PEN is right for 0 to 2.");
        for (int pen = 0; pen <= 255; pen++) {
            PlotKernel x = Check.fed(3, pen);
            Check.due("queued of PEN " + pen, x.queued(), pen <= 2 ? 1 : 0);
            Check.due("errors of PEN " + pen, x.errors(), pen <= 2 ? 0 : 1);
            x.tick(3);
            Check.due("pen behind PEN " + pen, x.pen(), pen <= 2 ? pen : 0);
        }
    }

    private static void aPenLeavesTheEnd() {
        Check.promise(2, "3 (PEN) by one, the pen; 4 (REPEAT) by one, a number.");
        PlotKernel x = Check.fed(1, 99, 99, 3, 2, 1, 1, 0, 1, 0, 1);
        Check.due("errors", x.errors(), 2);
        Check.feedAll(x, 1, -99, -99);
        Check.due("queued", x.queued(), 3);
        Check.feedAll(x, 4, 1);
        Check.due("REPEAT's number is one byte", x.errors(), 3);
        Check.feedAll(x, 1, 1, 1);
        Check.due("queued", x.queued(), 4);
    }

    private static void repeatNumbers() {
        Check.promise(2, "REPEAT is right for 1 to 9, if some MOVE or DRAW was queued before by bytes");
        for (int number = 0; number <= 255; number++) {
            PlotKernel x = Check.fed(2, 1, 1, 4, number);
            boolean right = number >= 1 && number <= 9;
            Check.due("errors of REPEAT " + number, x.errors(), right ? 0 : 1);
            Check.due("queued of REPEAT " + number, x.queued(), right ? 1 + number : 1);
            x.tick(1000);
            Check.due("at behind REPEAT " + number, x.at(), right ? 101 * (1 + number) : 101);
        }
    }

    private static void repeatNeedsACommand() {
        Check.promise(2, "REPEAT is right for 1 to 9, if some MOVE or DRAW was queued before by bytes");
        for (int number = 0; number <= 12; number++) {
            Check.due("a REPEAT of nothing is one error", Check.fed(4, number).errors(), 1);
        }
        PlotKernel x = Check.fed(3, 1, 4, 5);
        Check.due("a PEN is nothing to repeat", x.errors(), 1);
        Check.feedAll(x, 1, 0, 0, 2, 100, 0, 4, 5);
        Check.due("wrong ones are nothing to repeat", x.errors(), 4);
        Check.feedAll(x, 1, 5, 5, 1, 7);
        x.cut();
        Check.due("queued", x.queued(), 2);
        Check.feedAll(x, 4, 1);
        Check.due("one that was queued is", x.errors(), 4);
        Check.due("queued", x.queued(), 3);
    }

    private static void promiseOfTheLatest() {
        Check.promise(2, "then the latest such command, done or not, is tried so many times more, one after the other");
    }

    private static void repeatOfACommandDoneOrNot() {
        promiseOfTheLatest();
        for (int kind = 1; kind <= 2; kind++) {
            int whole = kind == 1 ? 12 : 14;
            for (int ticks = 0; ticks <= whole + 2; ticks++) {
                PlotKernel x = Check.ticked(ticks, kind, 12, 3);
                int before = ticks >= whole ? 0 : 1;
                Check.due("queued behind " + ticks + " ticks", x.queued(), before);
                Check.feedAll(x, 4, 2);
                Check.due("queued behind " + ticks + " ticks and REPEAT", x.queued(), before + 2);
                x.tick(1000);
                Check.due("at", x.at(), 936);
                Check.due("steps", kind == 1 ? x.stepsUp() : x.stepsDown(), 36);
            }
        }
    }

    private static void repeatOfTheLatest() {
        promiseOfTheLatest();
        PlotKernel x = Check.fed(1, 2, 0, 2, 0, 3, 3, 1, 1, 100, 0, 1, 0, 0, 4, 2);
        Check.due("errors", x.errors(), 2);
        Check.due("queued", x.queued(), 5);
        x.tick(1000);
        Check.due("the DRAW is repeated, not the PEN, not the wrong ones", x.at(), 902);
        Check.due("stepsDown", x.stepsDown(), 9);
        Check.due("ink of pen 1", x.ink(1), 494);
        Check.feedAll(x, 1, 1, 1, 4, 1);
        x.tick(1000);
        Check.due("then the MOVE", x.at(), 1104);
        Check.due("stepsUp", x.stepsUp(), 4);
    }

    private static void repeatBehindACut() {
        promiseOfTheLatest();
        PlotKernel x = Check.ticked(1000, 2, 3, 0);
        Check.due("queued", x.queued(), 0);
        x.cut();
        Check.feedAll(x, 4, 2);
        Check.due("queued", x.queued(), 2);
        x.tick(1000);
        Check.due("at", x.at(), 9);
    }

    private static void promiseOfEachTry() {
        Check.promise(2, "each time it is queued, if it is right then, also if 8 or more are queued by that, "
                + "and otherwise an error.");
    }

    private static void repeatTriesOneAfterTheOther() {
        promiseOfEachTry();
        for (int number = 1; number <= 9; number++) {
            PlotKernel x = Check.fed(1, 30, 0, 4, number);
            Check.due("queued of REPEAT " + number, x.queued(), 1 + Math.min(number, 2));
            Check.due("errors of REPEAT " + number, x.errors(), Math.max(number - 2, 0));
            x.tick(1000);
            Check.due("at", x.at(), Math.min(90, 30 + 30 * number));
        }
        PlotKernel x = Check.fed(1, 11, 11, 4, 8);
        Check.due("up to the last cell", x.errors(), 0);
        Check.due("queued", x.queued(), 9);
        PlotKernel y = Check.fed(1, 99, 99, 1, -33, -33, 4, 9);
        Check.due("down to the first cell", y.queued(), 4);
        Check.due("errors", y.errors(), 7);
    }

    private static void repeatWithEachTryAnError() {
        promiseOfEachTry();
        PlotKernel x = Check.fed(1, 50, 0, 4, 9);
        Check.due("errors", x.errors(), 9);
        Check.due("queued", x.queued(), 1);
        Check.feedAll(x, 4, 1);
        Check.due("errors", x.errors(), 10);
        Check.feedAll(x, 1, -50, 0, 4, 9);
        Check.due("errors", x.errors(), 19);
        Check.due("queued", x.queued(), 2);
    }

    private static void repeatGoesBeyondEight() {
        promiseOfEachTry();
        for (int number = 1; number <= 9; number++) {
            PlotKernel x = Check.fed(1, 1, 0, 4, 6, 4, number);
            Check.due("queued of 7 and " + number, x.queued(), 7 + number);
            Check.due("errors", x.errors(), 0);
            Check.no("the next byte is refused", x.feed(0));
            Check.due("tick", x.tick(1000), 7 + number);
            Check.due("at", x.at(), 7 + number);
        }
    }

    private static void repeatedOnesAreNotTheLatest() {
        Check.promise(2, "(Those queued by REPEAT are not the latest such command.)");
        PlotKernel x = Check.fed(2, 3, 1, 4, 2, 4, 2);
        Check.due("queued", x.queued(), 5);
        x.tick(1000);
        Check.due("a REPEAT behind a REPEAT repeats the same", x.at(), 515);
        Check.due("stepsDown", x.stepsDown(), 15);
        Check.feedAll(x, 1, 1, 0, 4, 1, 2, 0, 2, 4, 1);
        x.tick(1000);
        Check.due("at", x.at(), 917);
        Check.due("stepsDown", x.stepsDown(), 19);
    }
}
