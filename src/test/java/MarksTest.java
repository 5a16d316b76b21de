import java.util.BitSet;
import java.util.List;
import java.util.function.Supplier;

/** Promises 18 to 20: isMarked, marks, marksInTheEnd. */
public final class MarksTest {
    public static void main(String[] args) {
        noSuchCell();
        firstAndLastCells();
        everyRowAndColumn();
        theCellsOfALine();
        xAndYAreNotExchanged();
        cellsAreMarkedForGood();
        marksAtFirst();
        marksAreCountedOnce();
        marksOfMovesAndPens();
        marksOfARow();
        inTheEndOfNothing();
        inTheEndOfWhatIsQueued();
        inTheEndOfErrors();
        inTheEndOfMovesAndPens();
        inTheEndEachStepSingly();
        inTheEndWithTheFirstCell();
        inTheEndOfRepeats();
        inTheEndWithoutInk();
        inTheEndWithoutCuts();
        inTheEndOfALongRun();
        Check.end();
    }

    /** New; drawing, with bytes pending; behind a cut; waiting. */
    private static List<Supplier<PlotKernel>> states() {
        return List.of(
                PlotKernel::new,
                () -> Check.ticked(5, 2, 5, 5, 1, 1),
                MarksTest::wasCut,
                () -> Check.fed(1, 99, 99, 2, -20, -9, 4, 2));
    }

    private static PlotKernel wasCut() {
        PlotKernel x = Check.ticked(17, 2, 30, 12, 4);
        x.cut();
        return x;
    }

    private static void noSuchCell() {
        Check.promise(18, "Throws `IndexOutOfBoundsException` if there is no such cell");
        int[] wrong = {-1, -2, -100, 100, 101, 9999, 10000, Integer.MIN_VALUE, Integer.MAX_VALUE};
        int[] right = {0, 1, 50, 99};
        for (Supplier<PlotKernel> maker : states()) {
            for (int cell : wrong) {
                for (int other : right) {
                    Check.mustThrow("isMarked(" + cell + ", " + other + ")", IndexOutOfBoundsException.class, maker,
                            x -> x.isMarked(cell, other));
                    Check.mustThrow("isMarked(" + other + ", " + cell + ")", IndexOutOfBoundsException.class, maker,
                            x -> x.isMarked(other, cell));
                }
                Check.mustThrow("isMarked of " + cell + " twice", IndexOutOfBoundsException.class, maker,
                        x -> x.isMarked(cell, cell));
            }
        }
    }

    private static void firstAndLastCells() {
        Check.promise(18, "The paper has the cells with x and y from 0 to 99.");
        int[] edges = {0, 99};
        for (int x : edges) {
            for (int y : edges) {
                for (Supplier<PlotKernel> maker : states()) {
                    Check.mustNotThrow("isMarked(" + x + ", " + y + ")", maker, p -> p.isMarked(x, y));
                }
                PlotKernel p = new PlotKernel();
                Check.no("isMarked(" + x + ", " + y + ") of clean paper", p.isMarked(x, y));
                Check.feedAll(p, 2, 99, 0, 2, 0, 99, 2, -99, 0);
                p.tick(1000);
                Check.yes("isMarked(" + x + ", " + y + ") behind a DRAW there", p.isMarked(x, y));
            }
        }
    }

    private static void everyRowAndColumn() {
        Check.promise(18, "Tells whether a cell has a mark.");
        for (int y = 0; y < 100; y++) {
            PlotKernel x = y == 0 ? new PlotKernel() : Check.fed(1, 0, y);
            Check.feedAll(x, 2, 99, 0);
            x.tick(1000);
            Check.due("marks of row " + y, x.marks(), 100);
            for (int i = 0; i < 100; i++) {
                Check.yes("isMarked(" + i + ", " + y + ")", x.isMarked(i, y));
                Check.due("isMarked(" + y + ", " + i + ")", x.isMarked(y, i) ? 1 : 0, i == y ? 1 : 0);
            }
        }
    }

    private static void theCellsOfALine() {
        Check.promise(18, "Tells whether a cell has a mark.");
        int[][] ways = {{9, 4}, {4, 9}, {-9, 4}, {-4, -9}, {-40, -39}, {49, 1}, {1, 49}, {0, -50}, {49, -50}};
        for (int[] way : ways) {
            int steps = Math.max(Math.abs(way[0]), Math.abs(way[1]));
            BitSet due = new BitSet();
            for (int k = 0; k <= steps; k++) {
                due.set(100 * (50 + way[1] * k / steps) + 50 + way[0] * k / steps);
            }
            BitSet got = Check.marked(() -> Check.ticked(1000, 1, 50, 50, 2, way[0], way[1]));
            Check.yes("the marked cells " + got + " of " + way[0] + "," + way[1], got.equals(due));
        }
    }

    private static void xAndYAreNotExchanged() {
        Check.promise(18, "Tells whether a cell has a mark.");
        PlotKernel x = Check.ticked(1000, 1, 70, 20, 2, 2, 0);
        Check.yes("isMarked(72, 20)", x.isMarked(72, 20));
        Check.no("isMarked(20, 72)", x.isMarked(20, 72));
        Check.no("isMarked(73, 20)", x.isMarked(73, 20));
        Check.no("isMarked(69, 20)", x.isMarked(69, 20));
    }

    private static void cellsAreMarkedForGood() {
        Check.promise(18, "Tells whether a cell has a mark.");
        PlotKernel x = Check.ticked(17, 2, 30, 0);
        Check.yes("isMarked(15, 0)", x.isMarked(15, 0));
        Check.no("isMarked(16, 0)", x.isMarked(16, 0));
        x.cut();
        Check.yes("isMarked(15, 0) behind a cut", x.isMarked(15, 0));
        x.tick(1000);
        Check.yes("isMarked(15, 0) when it is drawn again", x.isMarked(15, 0));
        Check.due("marks", x.marks(), 31);
    }

    private static void marksAtFirst() {
        Check.promise(19, "Returns how many cells have marks.");
        PlotKernel x = Check.fed(2, 3, 3);
        int[] marks = {0, 0, 1, 2, 3, 4, 4};
        for (int i = 0; i < marks.length; i++) {
            Check.due("marks behind " + i + " ticks", x.marks(), marks[i]);
            x.tick(1);
        }
    }

    private static void marksAreCountedOnce() {
        Check.promise(19, "Returns how many cells have marks.");
        PlotKernel x = Check.ticked(1000, 2, 9, 0, 2, -9, 0, 2, 9, 0, 3, 1, 2, -9, 0);
        Check.due("marks", x.marks(), 10);
        Check.due("stepsDown", x.stepsDown(), 36);
        Check.due("marked cells", Check.marked(() -> Check.ticked(1000, 2, 9, 0, 2, -9, 0)).cardinality(), 10);
    }

    private static void marksOfMovesAndPens() {
        Check.promise(19, "Returns how many cells have marks.");
        PlotKernel x = Check.ticked(1000, 2, 1, 0, 1, 10, 10, 1, 3, 4, 3, 1);
        Check.due("marks", x.marks(), 2);
        Check.no("isMarked(5, 4)", x.isMarked(5, 4));
        Check.no("isMarked(14, 14)", x.isMarked(14, 14));
        Check.due("marks of MOVE and PEN alone", Check.ticked(1000, 1, 99, 99, 3, 1, 1, -9, -9).marks(), 0);
    }

    private static void marksOfARow() {
        Check.promise(19, "Returns how many cells have marks.");
        PlotKernel x = new PlotKernel();
        int due = 0;
        for (int pair = 0; pair < 16; pair++) {
            Check.feedAll(x, 2, 99, 0, 2, 0, 1, 2, -99, 0, 2, 0, 1);
            x.tick(1000);
            x.refill(0);
            due += 200;
            Check.due("marks of " + 2 * (pair + 1) + " rows", x.marks(), due + 1);
            Check.due("marksInTheEnd", x.marksInTheEnd(), due + 1);
        }
    }

    private static void promiseOfTheEnd() {
        Check.promise(20, "Returns how many cells would have marks if all commands that were queued so far, whether they are "
                + "done or not, had been done from clean paper on without a cut, and with enough ink, each step walked singly.");
    }

    private static void inTheEndOfNothing() {
        promiseOfTheEnd();
        Check.due("marksInTheEnd of a new object", new PlotKernel().marksInTheEnd(), 0);
        Check.due("marksInTheEnd of a DRAW that is not whole", Check.fed(2, 5).marksInTheEnd(), 0);
        PlotKernel x = Check.fed(2, 5);
        x.cut();
        Check.feedAll(x, 3, 1);
        Check.due("marksInTheEnd of a DRAW that is lost", x.marksInTheEnd(), 0);
    }

    private static void inTheEndOfWhatIsQueued() {
        promiseOfTheEnd();
        PlotKernel x = Check.fed(2, 5, 5);
        Check.due("marksInTheEnd of a DRAW to be done", x.marksInTheEnd(), 6);
        Check.due("marks", x.marks(), 0);
        x.tick(4);
        Check.due("marksInTheEnd of a DRAW that goes on", x.marksInTheEnd(), 6);
        Check.feedAll(x, 1, 5, 0, 2, 0, 3);
        Check.due("marksInTheEnd of both", x.marksInTheEnd(), 10);
        x.tick(1000);
        Check.due("marksInTheEnd of done ones", x.marksInTheEnd(), 10);
        Check.due("marks", x.marks(), 10);
        Check.feedAll(x, 2, 1, 0);
        Check.due("marksInTheEnd of one behind them", x.marksInTheEnd(), 11);
        Check.due("marks", x.marks(), 10);
    }

    private static void inTheEndOfErrors() {
        promiseOfTheEnd();
        PlotKernel x = Check.fed(2, 0, 0, 2, 100, 0, 2, 0, -1, 99);
        Check.due("marksInTheEnd of errors", x.marksInTheEnd(), 0);
        Check.feedAll(x, 2, 98, 0, 2, 2, 0);
        Check.due("marksInTheEnd of a right one and a wrong one", x.marksInTheEnd(), 99);
        PlotKernel y = Check.fed(2, 1, 0, 4, 9);
        int before = y.marksInTheEnd();
        y.feed(2);
        y.feed(9);
        y.feed(9);
        Check.due("marksInTheEnd behind refused bytes", y.marksInTheEnd(), before);
    }

    private static void inTheEndOfMovesAndPens() {
        promiseOfTheEnd();
        PlotKernel x = Check.fed(1, 99, 99, 3, 1, 1, -9, -9);
        Check.due("marksInTheEnd of MOVE and PEN", x.marksInTheEnd(), 0);
        Check.feedAll(x, 2, 1, 0);
        Check.due("marksInTheEnd of a DRAW behind them", x.marksInTheEnd(), 2);
        Check.feedAll(x, 1, 1, 0, 2, -5, 0);
        Check.due("marksInTheEnd of one over it", x.marksInTheEnd(), 6);
    }

    private static void inTheEndEachStepSingly() {
        promiseOfTheEnd();
        PlotKernel x = Check.fed(1, 50, 50, 2, -7, 3, 2, 7, -3);
        BitSet due = new BitSet();
        for (int k = 0; k <= 7; k++) {
            due.set(100 * (50 + 3 * k / 7) + 50 - k);
            due.set(100 * (53 - 3 * k / 7) + 43 + k);
        }
        Check.yes("the way back is another", due.cardinality() > 8);
        Check.due("marksInTheEnd", x.marksInTheEnd(), due.cardinality());
        x.tick(1000);
        Check.due("marks", x.marks(), due.cardinality());
        Check.due("marksInTheEnd of the longest DRAW", Check.fed(2, 99, 99).marksInTheEnd(), 100);
        Check.due("marksInTheEnd of the shortest one", Check.fed(2, 1, 0).marksInTheEnd(), 2);
    }

    private static void inTheEndWithTheFirstCell() {
        promiseOfTheEnd();
        Check.due("marksInTheEnd of a DRAW from 0,0", Check.fed(2, 3, 0).marksInTheEnd(), 4);
        Check.due("marksInTheEnd of a DRAW behind a MOVE", Check.fed(1, 9, 9, 2, 3, 0).marksInTheEnd(), 4);
        Check.due("marksInTheEnd of a DRAW behind a DRAW", Check.fed(2, 3, 0, 2, 0, 3).marksInTheEnd(), 7);
        Check.due("marksInTheEnd of a DRAW behind a PEN", Check.fed(2, 3, 0, 3, 1, 2, 0, 3).marksInTheEnd(), 7);
    }

    private static void inTheEndOfRepeats() {
        promiseOfTheEnd();
        PlotKernel x = Check.fed(2, 3, 1, 4, 9);
        Check.due("marksInTheEnd of 10 lines", x.marksInTheEnd(), 31);
        x.tick(1000);
        Check.due("marks", x.marks(), 31);
        Check.yes("isMarked(29, 9)", x.isMarked(29, 9));
        Check.due("tries that are errors", Check.fed(2, 40, 0, 4, 9).marksInTheEnd(), 81);
        Check.due("a REPEAT of a MOVE", Check.fed(2, 1, 0, 1, 5, 0, 4, 9).marksInTheEnd(), 2);
        Check.due("16 of them", Check.fed(2, 1, 0, 4, 6, 4, 9).marksInTheEnd(), 17);
    }

    private static void inTheEndWithoutInk() {
        promiseOfTheEnd();
        PlotKernel x = Check.fed(2, 30, 10);
        x.pour(0, 490);
        x.tick(1000);
        Check.yes("isWaiting", x.isWaiting());
        Check.due("marks", x.marks(), 11);
        Check.due("marksInTheEnd", x.marksInTheEnd(), 31);
        PlotKernel y = Check.fed(2, 99, 0, 2, 0, 99, 2, -99, 0, 2, 0, -98, 2, 98, 0, 2, 0, 97, 2, -97, 0);
        Check.due("marksInTheEnd of more steps than ink", y.marksInTheEnd(), 100 + 99 + 99 + 98 + 98 + 97 + 97);
        y.tick(1000);
        Check.due("marks of all ink", y.marks(), 501);
    }

    private static void inTheEndWithoutCuts() {
        promiseOfTheEnd();
        for (int ticks = 1; ticks <= 60; ticks++) {
            PlotKernel x = Check.ticked(ticks, 2, 30, 10, 1, 0, 9, 2, -7, 5);
            int due = 31 + 8;
            Check.due("marksInTheEnd behind " + ticks + " ticks", x.marksInTheEnd(), due);
            x.cut();
            Check.due("marksInTheEnd behind a cut", x.marksInTheEnd(), due);
            x.tick(5);
            x.cut();
            x.tick(1000);
            Check.due("marks", x.marks(), due);
            Check.due("marksInTheEnd", x.marksInTheEnd(), due);
        }
    }

    private static void inTheEndOfALongRun() {
        promiseOfTheEnd();
        PlotKernel x = new PlotKernel();
        int due = 1;
        for (int round = 0; round < 99; round++) {
            Check.feedAll(x, 2, 0, 1);
            due++;
            x.tick(100);
            Check.due("marksInTheEnd of " + (round + 1) + " commands", x.marksInTheEnd(), due);
        }
        Check.due("queued", x.queued(), 0);
        Check.due("marks", x.marks(), 100);
    }
}
