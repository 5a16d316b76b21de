/** Promises 1 to 5: a new object, feed, errors, queued, pending. */
public final class BytesTest {
    public static void main(String[] args) {
        newObject();
        newObjectsShareNothing();
        zeroIsNothing();
        otherBytesAreErrors();
        pendingBytes();
        zeroInsideACommandIsAByteOfIt();
        signedBytes();
        motionsOnAndOffThePaper();
        theEndOfTheQueueIsNotTheCarriage();
        anErrorLeavesTheEndOfTheQueue();
        pens();
        repeatNeedsACommand();
        repeatNumbers();
        repeatTriesEach();
        repeatGoesBeyondEight();
        repeatTakesTheLatestQueuedByBytes();
        repeatAfterDoneAndAfterCut();
        repeatIsNotStoppedByAFailure();
        aFullQueueRefuses();
        aFullQueueRefusesInsideACommand();
        bytesOutOfRange();
        Check.end();
    }

    private static void newObject() {
        PlotKernel x = new PlotKernel();
        Check.due("errors", x.errors(), 0);
        Check.due("queued", x.queued(), 0);
        Check.due("pending", x.pending(), 0);
        Check.due("at", x.at(), 0);
        Check.no("isDown", x.isDown());
        Check.due("pen", x.pen(), 0);
        for (int pen = 0; pen < 3; pen++) {
            Check.due("ink", x.ink(pen), 500);
        }
        Check.no("isWaiting", x.isWaiting());
        Check.due("timeLeft", x.timeLeft(), 0);
        Check.due("stepsUp", x.stepsUp(), 0);
        Check.due("stepsDown", x.stepsDown(), 0);
        Check.due("marks", x.marks(), 0);
        Check.due("marksInTheEnd", x.marksInTheEnd(), 0);
        for (int cell = 0; cell < 10000; cell++) {
            Check.no("isMarked " + cell, x.isMarked(cell % 100, cell / 100));
        }
        Check.due("tick", x.tick(1000), 0);
        Check.due("cut", x.cut(), 0);
    }

    private static void newObjectsShareNothing() {
        PlotKernel used = Check.fed(2, 5, 5, 3, 1, 9, 1);
        used.tick(1000);
        used.pour(2, 100);
        String fresh = Check.everything(new PlotKernel());
        PlotKernel other = new PlotKernel();
        Check.due("a second object's errors", other.errors(), 0);
        Check.due("a second object's marks", other.marks(), 0);
        Check.due("a second object's ink", other.ink(2), 500);
        Check.yes("all new objects are alike", fresh.equals(Check.everything(other)));
    }

    private static void zeroIsNothing() {
        PlotKernel x = new PlotKernel();
        String before = Check.everything(x);
        Check.feedAll(x, 0, 0, 0);
        Check.yes("0 alone changes nothing", before.equals(Check.everything(x)));
        Check.feedAll(x, 1, 1, 0, 0, 0);
        Check.due("queued behind 0s", x.queued(), 1);
        Check.due("pending behind 0s", x.pending(), 0);
        Check.due("errors behind 0s", x.errors(), 0);
    }

    private static void otherBytesAreErrors() {
        for (int value = 5; value <= 255; value++) {
            PlotKernel x = Check.fed(value);
            Check.due("errors behind " + value, x.errors(), 1);
            Check.due("pending behind " + value, x.pending(), 0);
            Check.due("queued behind " + value, x.queued(), 0);
            Check.feedAll(x, 1, 2, 3);
            Check.due("queued behind " + value + " and a MOVE", x.queued(), 1);
        }
    }

    private static void pendingBytes() {
        PlotKernel x = new PlotKernel();
        for (int motion = 1; motion <= 2; motion++) {
            Check.feedAll(x, motion);
            Check.due("pending", x.pending(), 1);
            Check.feedAll(x, 7);
            Check.due("pending", x.pending(), 2);
            Check.due("queued", x.queued(), motion - 1);
            Check.feedAll(x, 8);
            Check.due("pending", x.pending(), 0);
            Check.due("queued", x.queued(), motion);
        }
        for (int two = 3; two <= 4; two++) {
            Check.feedAll(x, two);
            Check.due("pending", x.pending(), 1);
            Check.feedAll(x, 1);
            Check.due("pending", x.pending(), 0);
            Check.due("queued", x.queued(), two);
        }
        Check.feedAll(x, 3, 200);
        Check.due("pending behind an error", x.pending(), 0);
        Check.due("errors", x.errors(), 1);
    }

    private static void zeroInsideACommandIsAByteOfIt() {
        PlotKernel x = Check.fed(1, 0, 9, 1, 9, 0, 3, 0);
        Check.due("queued", x.queued(), 3);
        Check.due("errors", x.errors(), 0);
        Check.feedAll(x, 4, 0);
        Check.due("REPEAT of 0 is an error", x.errors(), 1);
        Check.feedAll(x, 1, 0, 0);
        Check.due("a MOVE by nothing is an error", x.errors(), 2);
        Check.feedAll(x, 2, 0, 0);
        Check.due("a DRAW by nothing is an error", x.errors(), 3);
        Check.due("queued", x.queued(), 3);
        x.tick(1000);
        Check.due("at", x.at(), 909);
    }

    private static void signedBytes() {
        PlotKernel x = Check.fed(1, 99, 99, 1, 255, 254);
        x.tick(1000);
        Check.due("255 is -1 and 254 is -2", x.at(), 9798);
        Check.feedAll(x, 1, -98, -97);
        x.tick(1000);
        Check.due("158 is -98", x.at(), 0);
        Check.feedAll(x, 1, 127, 0, 1, 128, 0, 1, 0, 127, 1, 0, 128);
        Check.due("127 and -128 are off the paper", x.errors(), 4);
        Check.due("queued", x.queued(), 0);
        Check.feedAll(x, 1, 99, 0, 1, 129, 0);
        Check.due("-127 from 99 is off the paper", x.errors(), 5);
    }

    private static void motionsOnAndOffThePaper() {
        int[][] off = {{100, 0}, {0, 100}, {-1, 0}, {0, -1}, {-1, 5}, {5, -1}, {100, 100}};
        for (int motion = 1; motion <= 2; motion++) {
            for (int[] way : off) {
                PlotKernel x = Check.fed(motion, way[0], way[1]);
                Check.due("errors of " + way[0] + "," + way[1], x.errors(), 1);
                Check.due("queued of " + way[0] + "," + way[1], x.queued(), 0);
            }
            PlotKernel x = Check.fed(motion, 99, 0, motion, 0, 99, motion, -99, 0, motion, 0, -99);
            Check.due("the corners are on the paper", x.errors(), 0);
            Check.due("queued", x.queued(), 4);
            Check.feedAll(x, motion, 99, 99, motion, 1, 0, motion, 0, 1);
            Check.due("beyond the last corner is not", x.errors(), 2);
        }
    }

    private static void theEndOfTheQueueIsNotTheCarriage() {
        PlotKernel x = Check.fed(1, 60, 0);
        x.tick(30);
        Check.feedAll(x, 1, 40, 0);
        Check.due("60 and 40 are off the paper", x.errors(), 1);
        Check.feedAll(x, 1, -60, 0);
        Check.due("60 and -60 are on it", x.errors(), 1);
        x.cut();
        Check.feedAll(x, 1, -1, 0);
        Check.due("the end stays behind a cut", x.errors(), 2);
        Check.feedAll(x, 1, 99, 0);
        Check.due("the end stays behind a cut", x.queued(), 3);
        x.tick(1000);
        Check.due("at", x.at(), 99);
        Check.feedAll(x, 1, 1, 0);
        Check.due("without commands the end is the carriage", x.errors(), 3);
    }

    private static void anErrorLeavesTheEndOfTheQueue() {
        PlotKernel x = Check.fed(1, 90, 0, 1, 50, 0, 2, 9, 0);
        Check.due("errors", x.errors(), 1);
        Check.due("queued", x.queued(), 2);
        Check.feedAll(x, 2, 1, 0);
        Check.due("errors", x.errors(), 2);
    }

    private static void pens() {
        PlotKernel x = new PlotKernel();
        for (int pen = 0; pen < 3; pen++) {
            Check.feedAll(x, 3, pen);
        }
        Check.due("queued", x.queued(), 3);
        int errors = 0;
        for (int pen = 3; pen <= 255; pen++) {
            Check.feedAll(x, 3, pen);
            errors++;
            Check.due("errors behind PEN " + pen, x.errors(), errors);
        }
        Check.due("queued", x.queued(), 3);
    }

    private static void repeatNeedsACommand() {
        PlotKernel x = Check.fed(4, 5);
        Check.due("a REPEAT of nothing is one error", x.errors(), 1);
        Check.feedAll(x, 3, 1, 4, 5);
        Check.due("PEN is nothing to repeat", x.errors(), 2);
        Check.feedAll(x, 1, 0, 0, 2, 100, 0, 4, 5);
        Check.due("wrong commands are nothing to repeat", x.errors(), 5);
        Check.due("queued", x.queued(), 1);
    }

    private static void repeatNumbers() {
        int[] wrong = {0, 10, 11, 100, 127, 128, 255};
        for (int number : wrong) {
            PlotKernel x = Check.fed(1, 1, 0, 4, number);
            Check.due("errors of REPEAT " + number, x.errors(), 1);
            Check.due("queued of REPEAT " + number, x.queued(), 1);
        }
        for (int number = 1; number <= 9; number++) {
            PlotKernel x = Check.fed(2, 1, 1, 4, number);
            Check.due("errors of REPEAT " + number, x.errors(), 0);
            Check.due("queued of REPEAT " + number, x.queued(), 1 + number);
            x.tick(1000);
            Check.due("at", x.at(), 101 * (1 + number));
        }
    }

    private static void repeatTriesEach() {
        PlotKernel x = Check.fed(1, 30, 0, 4, 5);
        Check.due("queued", x.queued(), 3);
        Check.due("errors", x.errors(), 3);
        x.tick(1000);
        Check.due("at", x.at(), 90);
        Check.due("stepsUp", x.stepsUp(), 90);
    }

    private static void repeatGoesBeyondEight() {
        PlotKernel x = Check.fed(1, 1, 0, 4, 6, 4, 9);
        Check.due("7 and 9 are queued", x.queued(), 16);
        Check.no("a byte is refused", x.feed(0));
        Check.due("tick", x.tick(8), 8);
        Check.due("queued", x.queued(), 8);
        Check.no("at 8 it is refused still", x.feed(7));
        Check.due("errors", x.errors(), 0);
        x.tick(1);
        Check.yes("at 7 it is taken", x.feed(7));
        Check.due("errors", x.errors(), 1);
        Check.feedAll(x, 4, 9);
        Check.due("queued again", x.queued(), 16);
        x.tick(1000);
        Check.due("at", x.at(), 25);
    }

    private static void repeatTakesTheLatestQueuedByBytes() {
        PlotKernel x = Check.fed(1, 2, 0, 2, 0, 3, 3, 1, 1, 100, 0, 4, 2);
        Check.due("errors", x.errors(), 1);
        Check.due("queued", x.queued(), 5);
        x.tick(1000);
        Check.due("the DRAW is repeated", x.at(), 902);
        Check.due("stepsDown", x.stepsDown(), 9);
        Check.due("ink of pen 1", x.ink(1), 494);
        Check.feedAll(x, 1, 1, 1, 4, 1);
        x.tick(1000);
        Check.due("then the MOVE", x.at(), 1104);
        Check.due("stepsUp", x.stepsUp(), 4);
    }

    private static void repeatAfterDoneAndAfterCut() {
        PlotKernel x = Check.fed(2, 3, 0);
        x.tick(1000);
        Check.due("queued", x.queued(), 0);
        x.cut();
        Check.feedAll(x, 4, 2);
        Check.due("a done command is repeated", x.queued(), 2);
        x.tick(1000);
        Check.due("at", x.at(), 9);
    }

    private static void repeatIsNotStoppedByAFailure() {
        PlotKernel x = Check.fed(1, 50, 0, 4, 9);
        Check.due("each try is an error of its own", x.errors(), 9);
        Check.due("queued", x.queued(), 1);
        Check.feedAll(x, 1, -50, 0, 4, 9);
        Check.due("errors", x.errors(), 18);
        Check.due("queued", x.queued(), 2);
    }

    private static void aFullQueueRefuses() {
        PlotKernel x = Check.fed(3, 0, 3, 0, 3, 0, 3, 0, 3, 0, 3, 0, 3, 0);
        Check.due("queued", x.queued(), 7);
        Check.feedAll(x, 3, 1);
        Check.due("queued", x.queued(), 8);
        String before = Check.everything(x);
        for (int value = 0; value <= 255; value++) {
            Check.no("feed of " + value, x.feed(value));
        }
        Check.yes("a refused byte changes nothing", before.equals(Check.everything(x)));
        x.tick(3);
        Check.yes("a byte is taken again", x.feed(3));
        Check.due("pending", x.pending(), 1);
    }

    private static void aFullQueueRefusesInsideACommand() {
        PlotKernel x = Check.fed(1, 1, 0, 4, 6);
        Check.feedAll(x, 1, 5);
        Check.due("pending at 7 queued", x.pending(), 2);
        Check.feedAll(x, 0);
        Check.due("queued", x.queued(), 8);
        Check.no("an error byte is refused", x.feed(99));
        Check.due("errors", x.errors(), 0);
        Check.due("pending", x.pending(), 0);
    }

    private static void bytesOutOfRange() {
        PlotKernel x = Check.fed(2, 5, 5, 1, 7);
        int[] wrong = {-1, 256, -128, 1000, Integer.MIN_VALUE, Integer.MAX_VALUE};
        for (int value : wrong) {
            Check.mustThrow("feed(" + value + ")", IllegalArgumentException.class, x, () -> x.feed(value) ? 1 : 0);
        }
        Check.feedAll(x, 0, 4, 9);
        for (int value : wrong) {
            Check.mustThrow("feed to a full queue", IllegalArgumentException.class, x, () -> x.feed(value) ? 1 : 0);
        }
    }
}
