/** Promises 18 to 20, isMarked, marks and marksInTheEnd, and the machine's cells (10 to 12). */
public final class MarksTest {
    public static void main(String[] args) {
        wrongCells();
        marksOfALine();
        marksAreCountedOnce();
        moveMarksNothing();
        lowMarks();
        xAndYAreNotExchanged();
        everyRowCanBeMarked();
        inTheEndCountsWhatIsQueued();
        inTheEndWalksEachStep();
        inTheEndWithRepeats();
        inTheEndDoesNotMindInkAndCuts();
        aCutDrawingHasTheMarksOfOneThatWasNot();
        Check.end();
    }

    private static void wrongCells() {
        PlotKernel x = Check.fed(2, 5, 5, 1, 1);
        x.tick(5);
        int[] wrong = {-1, 100, 101, -100, Integer.MIN_VALUE, Integer.MAX_VALUE};
        for (int cell : wrong) {
            Check.mustThrow("isMarked(" + cell + ", 0)", IndexOutOfBoundsException.class, x, () -> x.isMarked(cell, 0) ? 1 : 0);
            Check.mustThrow("isMarked(0, " + cell + ")", IndexOutOfBoundsException.class, x, () -> x.isMarked(0, cell) ? 1 : 0);
            Check.mustThrow("isMarked(99, " + cell + ")", IndexOutOfBoundsException.class, x, () -> x.isMarked(99, cell) ? 1 : 0);
            Check.mustThrow("isMarked of both", IndexOutOfBoundsException.class, x, () -> x.isMarked(cell, cell) ? 1 : 0);
        }
        Check.no("isMarked(99, 99)", x.isMarked(99, 99));
        Check.yes("isMarked(0, 0)", x.isMarked(0, 0));
    }

    private static void marksOfALine() {
        PlotKernel x = Check.fed(2, 9, 4);
        x.tick(1000);
        boolean[][] due = new boolean[100][100];
        for (int k = 0; k <= 9; k++) {
            due[4 * k / 9][k] = true;
        }
        for (int cell = 0; cell < 10000; cell++) {
            Check.due("isMarked " + cell, x.isMarked(cell % 100, cell / 100) ? 1 : 0, due[cell / 100][cell % 100] ? 1 : 0);
        }
        Check.due("marks", x.marks(), 10);
    }

    private static void marksAreCountedOnce() {
        PlotKernel x = Check.fed(2, 9, 0, 2, -9, 0, 2, 9, 0, 3, 1, 2, -9, 0);
        Check.due("marksInTheEnd", x.marksInTheEnd(), 10);
        x.tick(1000);
        Check.due("marks", x.marks(), 10);
        Check.due("stepsDown", x.stepsDown(), 36);
    }

    private static void moveMarksNothing() {
        PlotKernel x = Check.fed(2, 1, 0, 1, 10, 10, 1, 3, 4, 3, 1);
        Check.due("marksInTheEnd", x.marksInTheEnd(), 2);
        x.tick(1000);
        Check.due("marks", x.marks(), 2);
        Check.no("isMarked", x.isMarked(5, 4));
        Check.no("isMarked", x.isMarked(14, 14));
    }

    private static void lowMarks() {
        PlotKernel x = Check.fed(1, 40, 60, 2, 1, 1);
        x.tick(61);
        Check.due("marks", x.marks(), 0);
        x.tick(1);
        Check.due("marks", x.marks(), 1);
        Check.yes("isMarked", x.isMarked(40, 60));
        x.tick(1);
        Check.due("marks", x.marks(), 2);
    }

    private static void xAndYAreNotExchanged() {
        PlotKernel x = Check.fed(1, 70, 20, 2, 2, 0);
        x.tick(1000);
        Check.due("at", x.at(), 2072);
        Check.yes("isMarked(72, 20)", x.isMarked(72, 20));
        Check.no("isMarked(20, 72)", x.isMarked(20, 72));
    }

    private static void everyRowCanBeMarked() {
        for (int y = 0; y < 100; y++) {
            PlotKernel x = Check.fed(3, 1);
            if (y > 0) {
                Check.feedAll(x, 1, 0, y);
            }
            Check.feedAll(x, 2, 99, 0);
            x.tick(1000);
            Check.due("marks of row " + y, x.marks(), 100);
            for (int i = 0; i < 100; i++) {
                Check.yes("isMarked(" + i + ", " + y + ")", x.isMarked(i, y));
                Check.due("isMarked(" + y + ", " + i + ")", x.isMarked(y, i) ? 1 : 0, i == y ? 1 : 0);
            }
        }
    }

    private static void inTheEndCountsWhatIsQueued() {
        PlotKernel x = Check.fed(2, 5);
        Check.due("a command that is not whole", x.marksInTheEnd(), 0);
        Check.feedAll(x, 5);
        Check.due("a command that is queued", x.marksInTheEnd(), 6);
        Check.due("marks", x.marks(), 0);
        Check.feedAll(x, 2, 0, 0, 2, 100, 0);
        Check.due("errors count nothing", x.marksInTheEnd(), 6);
        Check.feedAll(x, 1, 5, 0);
        Check.due("MOVE counts nothing", x.marksInTheEnd(), 6);
        Check.feedAll(x, 2, 0, 3);
        Check.due("the next DRAW begins behind it", x.marksInTheEnd(), 10);
        x.tick(1000);
        Check.due("done commands count", x.marksInTheEnd(), 10);
        Check.due("marks", x.marks(), 10);
        Check.feedAll(x, 2, 1, 0);
        Check.due("and those behind them", x.marksInTheEnd(), 11);
    }

    private static void inTheEndWalksEachStep() {
        PlotKernel x = Check.fed(1, 50, 50, 2, -7, 3, 2, 7, -3);
        boolean[][] due = new boolean[100][100];
        int count = 0;
        for (int k = 0; k <= 7; k++) {
            int[][] cells = {{50 - k, 50 + 3 * k / 7}, {43 + k, 53 - 3 * k / 7}};
            for (int[] cell : cells) {
                if (!due[cell[1]][cell[0]]) {
                    due[cell[1]][cell[0]] = true;
                    count++;
                }
            }
        }
        Check.yes("the way back is another", count > 8);
        Check.due("marksInTheEnd", x.marksInTheEnd(), count);
        x.tick(1000);
        Check.due("marks", x.marks(), count);
    }

    private static void inTheEndWithRepeats() {
        PlotKernel x = Check.fed(2, 3, 1, 4, 9);
        Check.due("each repeated line is walked", x.marksInTheEnd(), 31);
        x.tick(1000);
        Check.due("marks", x.marks(), 31);
        Check.yes("isMarked", x.isMarked(29, 9));
        PlotKernel y = Check.fed(2, 40, 0, 4, 9);
        Check.due("failed tries count nothing", y.marksInTheEnd(), 81);
    }

    private static void inTheEndDoesNotMindInkAndCuts() {
        PlotKernel x = Check.fed(2, 30, 10);
        x.pour(0, 490);
        x.tick(1000);
        Check.due("marks", x.marks(), 11);
        Check.due("marksInTheEnd", x.marksInTheEnd(), 31);
        x.cut();
        Check.due("marksInTheEnd", x.marksInTheEnd(), 31);
        x.refill(0);
        x.tick(5);
        x.cut();
        x.tick(1000);
        Check.due("marks", x.marks(), 31);
        Check.due("marksInTheEnd", x.marksInTheEnd(), 31);
    }

    private static void aCutDrawingHasTheMarksOfOneThatWasNot() {
        int[] drawing = {1, 3, 40, 2, 45, 17, 3, 2, 2, 10, 41, 1, -5, -20, 2, -41, 6, 4, 1};
        PlotKernel whole = Check.fed(drawing);
        whole.tick(1000);
        for (int period = 13; period < 60; period++) {
            PlotKernel x = Check.fed(drawing);
            for (int i = 0; i < 400 && x.queued() > 0; i++) {
                x.tick(period);
                x.cut();
            }
            Check.due("queued with cuts each " + period, x.queued(), 0);
            Check.due("marks with cuts each " + period, x.marks(), whole.marks());
            Check.due("marksInTheEnd", x.marksInTheEnd(), whole.marks());
            Check.due("at", x.at(), whole.at());
            Check.due("pen", x.pen(), whole.pen());
            for (int cell = 0; cell < 10000; cell++) {
                Check.yes("cell " + cell, x.isMarked(cell % 100, cell / 100) == whole.isMarked(cell % 100, cell / 100));
            }
        }
    }
}
