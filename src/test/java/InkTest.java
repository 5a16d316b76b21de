/** Promises 8, 9, 13 and 14: refill, pour, ink, isWaiting. */
public final class InkTest {
    public static void main(String[] args) {
        refillAnswersWhatItHad();
        pourTakesWhatThereIs();
        wrongPens();
        wrongAmounts();
        stepsTakeInkOfTheHeldPen();
        waitsWithoutInk();
        waitsOnlyForTheFirstCommand();
        waitsOnlyWithThePenDown();
        lowersWithoutInk();
        cutWhileWaiting();
        inkRunsOutWhileDrawing();
        Check.end();
    }

    private static void refillAnswersWhatItHad() {
        PlotKernel x = new PlotKernel();
        for (int pen = 0; pen < 3; pen++) {
            Check.due("refill of a full pen", x.refill(pen), 500);
            x.pour(pen, 100 + pen);
            Check.due("refill", x.refill(pen), 400 - pen);
            Check.due("ink", x.ink(pen), 500);
            x.pour(pen, 500);
            Check.due("refill of an empty pen", x.refill(pen), 0);
            Check.due("refill", x.refill(pen), 500);
        }
    }

    private static void pourTakesWhatThereIs() {
        for (int pen = 0; pen < 3; pen++) {
            PlotKernel x = new PlotKernel();
            Check.due("pour 1", x.pour(pen, 1), 499);
            Check.due("pour 200", x.pour(pen, 200), 299);
            Check.due("pour all but 1", x.pour(pen, 298), 1);
            Check.due("pour more than there is", x.pour(pen, 2), 0);
            Check.due("pour of nothing", x.pour(pen, 500), 0);
            Check.due("ink", x.ink(pen), 0);
            Check.due("the next pen's ink", x.ink((pen + 1) % 3), 500);
            Check.due("the last pen's ink", x.ink((pen + 2) % 3), 500);
        }
        Check.due("pour 500 of 500", new PlotKernel().pour(0, 500), 0);
    }

    private static void wrongPens() {
        PlotKernel x = Check.fed(2, 5, 5, 3);
        x.tick(4);
        int[] wrong = {-1, 3, 500, Integer.MIN_VALUE, Integer.MAX_VALUE};
        for (int pen : wrong) {
            Check.mustThrow("ink(" + pen + ")", IndexOutOfBoundsException.class, x, () -> x.ink(pen));
            Check.mustThrow("refill(" + pen + ")", IndexOutOfBoundsException.class, x, () -> x.refill(pen));
            Check.mustThrow("pour(" + pen + ", 1)", IndexOutOfBoundsException.class, x, () -> x.pour(pen, 1));
            Check.mustThrow("pour(" + pen + ", 0)", IndexOutOfBoundsException.class, x, () -> x.pour(pen, 0));
            Check.mustThrow("pour(" + pen + ", 501)", IndexOutOfBoundsException.class, x, () -> x.pour(pen, 501));
        }
    }

    private static void wrongAmounts() {
        PlotKernel x = Check.fed(2, 5, 5);
        x.tick(4);
        int[] wrong = {0, -1, 501, Integer.MIN_VALUE, Integer.MAX_VALUE};
        for (int amount : wrong) {
            for (int pen = 0; pen < 3; pen++) {
                int held = pen;
                Check.mustThrow("pour of " + amount, IllegalArgumentException.class, x, () -> x.pour(held, amount));
            }
        }
    }

    private static void stepsTakeInkOfTheHeldPen() {
        PlotKernel x = Check.fed(2, 3, 0, 3, 2, 2, 5, 0, 3, 1, 2, 0, 7, 1, 1, 1);
        x.tick(1000);
        Check.due("ink of pen 0", x.ink(0), 497);
        Check.due("ink of pen 1", x.ink(1), 493);
        Check.due("ink of pen 2", x.ink(2), 495);
    }

    private static void waitsWithoutInk() {
        PlotKernel x = Check.fed(2, 5, 0);
        x.pour(0, 498);
        Check.due("tick", x.tick(1000), 2);
        Check.yes("isWaiting", x.isWaiting());
        String before = Check.everything(x);
        Check.due("tick", x.tick(1000), 0);
        Check.yes("nothing is done", before.equals(Check.everything(x)));
        Check.due("queued", x.queued(), 1);
        x.refill(1);
        Check.yes("another pen's ink does not help", x.isWaiting());
        x.refill(0);
        Check.no("isWaiting behind refill", x.isWaiting());
        Check.due("tick", x.tick(1000), 3);
        x.pour(0, 500);
        Check.no("without commands it does not wait", x.isWaiting());
    }

    private static void waitsOnlyForTheFirstCommand() {
        PlotKernel x = Check.fed(1, 2, 0, 2, 2, 0);
        x.pour(0, 500);
        Check.no("MOVE does not wait", x.isWaiting());
        Check.due("tick", x.tick(2), 2);
        Check.no("the pen is up", x.isWaiting());
        PlotKernel y = Check.fed(2, 1, 0, 3, 0, 1, 1, 0);
        y.tick(3);
        y.pour(0, 500);
        Check.no("PEN does not wait", y.isWaiting());
        y.tick(5);
        Check.due("tick", y.tick(1), 1);
    }

    private static void waitsOnlyWithThePenDown() {
        PlotKernel x = Check.fed(2, 2, 0);
        x.pour(0, 500);
        Check.no("lowering is to be done first", x.isWaiting());
        x.tick(1);
        Check.no("lowering is to be done still", x.isWaiting());
        x.tick(1);
        Check.yes("isWaiting", x.isWaiting());
    }

    private static void lowersWithoutInk() {
        PlotKernel x = Check.fed(1, 7, 3, 2, 2, 0);
        x.pour(0, 500);
        x.tick(1000);
        Check.yes("isDown", x.isDown());
        Check.yes("lowering marks without ink", x.isMarked(7, 3));
        Check.due("marks", x.marks(), 1);
        Check.due("ink", x.ink(0), 0);
    }

    private static void cutWhileWaiting() {
        PlotKernel x = Check.fed(2, 20, 0);
        x.pour(0, 487);
        Check.due("tick", x.tick(100), 13);
        Check.yes("isWaiting", x.isWaiting());
        Check.due("cut", x.cut(), 3);
        Check.no("the pen is up", x.isWaiting());
        Check.due("at", x.at(), 10);
        Check.due("tick", x.tick(100), 0);
        Check.yes("isWaiting", x.isWaiting());
        Check.due("ink is the pen's, not the journal's", x.refill(0), 0);
        Check.due("tick", x.tick(100), 10);
        Check.due("ink", x.ink(0), 490);
    }

    private static void inkRunsOutWhileDrawing() {
        PlotKernel x = Check.fed(2, 99, 0, 2, -99, 0, 2, 99, 0, 2, -99, 0, 2, 99, 0, 2, -99, 0);
        Check.due("500 steps are done", x.tick(1000), 500);
        Check.yes("isWaiting", x.isWaiting());
        Check.due("at", x.at(), 94);
        Check.due("ink", x.ink(0), 0);
        Check.due("queued", x.queued(), 1);
        Check.due("timeLeft", x.timeLeft(), 94);
    }
}
