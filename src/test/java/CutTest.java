/** Promise 7, cut: what the journal keeps, and what a cut loses. */
public final class CutTest {
    public static void main(String[] args) {
        backToTheJournalWhileDrawing();
        backToTheJournalWhileMoving();
        ofADoneCommandNothing();
        countsFromEachCommandOn();
        cutAfterCut();
        withoutCommands();
        forgetsLowering();
        forgetsLifting();
        forgetsChanging();
        keepsTheQueue();
        keepsThePen();
        liftsThePen();
        losesPendingBytes();
        keepsInkMarksAndCounts();
        whileWaiting();
        theMarksAreThoseOfADrawingThatWasNotCut();
        Check.end();
    }

    private static void backToTheJournalWhileDrawing() {
        Check.promise(7, "of the command that goes on the greatest multiple of 10 that is not above the number of its "
                + "steps done");
        for (int done = 0; done <= 99; done++) {
            PlotKernel x = Check.ticked(2 + done, 2, 99, 50);
            int kept = done == 99 ? 99 : done / 10 * 10;
            Check.due("cut behind " + done + " steps", x.cut(), done - kept);
            Check.due("at behind " + done + " steps", x.at(), 100 * (50 * kept / 99) + kept);
            Check.due("queued behind " + done + " steps", x.queued(), done == 99 ? 0 : 1);
            Check.due("timeLeft behind " + done + " steps", x.timeLeft(), done == 99 ? 0 : 2 + 99 - kept);
            Check.due("steps to do behind " + done + " steps", x.tick(1000), 99 - kept);
            Check.due("at the end", x.at(), 5099);
        }
    }

    private static void backToTheJournalWhileMoving() {
        Check.promise(7, "the carriage goes to where it was behind so many steps of it, the steps beyond are to be done again");
        for (int size = 1; size <= 41; size++) {
            for (int done = 1; done < size; done++) {
                PlotKernel x = Check.ticked(size, 1, 0, size, 1, size / 3, -size);
                x.tick(done);
                int kept = done - done % 10;
                Check.due("cut behind " + done + " of " + size, x.cut(), done - kept);
                Check.due("at behind " + done + " of " + size, x.at(), 100 * (size - kept) + size / 3 * kept / size);
                Check.due("timeLeft behind " + done + " of " + size, x.timeLeft(), size - kept);
                Check.due("steps to do behind " + done + " of " + size, x.tick(1000), size - kept);
            }
        }
    }

    private static void ofADoneCommandNothing() {
        Check.promise(7, "Returns how many steps are to be done again.");
        for (int size = 1; size <= 30; size++) {
            PlotKernel x = Check.ticked(size, 1, size, 0, 1, 0, size);
            Check.due("cut behind all " + size + " steps", x.cut(), 0);
            Check.due("at", x.at(), size);
            Check.due("queued", x.queued(), 1);
        }
    }

    private static void countsFromEachCommandOn() {
        Check.promise(7, "Returns how many steps are to be done again.");
        PlotKernel x = Check.ticked(34, 1, 0, 35, 1, 25, 0);
        Check.due("cut", x.cut(), 4);
        Check.due("at", x.at(), 3000);
        Check.due("tick", x.tick(5), 5);
        Check.due("at", x.at(), 3500);
        Check.due("cut between the commands", x.cut(), 0);
        x.tick(19);
        Check.due("cut in the second one", x.cut(), 9);
        Check.due("at", x.at(), 3510);
    }

    private static void cutAfterCut() {
        Check.promise(7, "Returns how many steps are to be done again.");
        PlotKernel x = Check.ticked(19, 1, 25, 0);
        Check.due("cut", x.cut(), 9);
        Check.due("the next cut", x.cut(), 0);
        Check.due("at", x.at(), 10);
        x.tick(9);
        Check.due("at", x.at(), 19);
        Check.due("cut", x.cut(), 9);
        x.tick(10);
        Check.due("cut behind 20", x.cut(), 0);
        Check.due("at", x.at(), 20);
        Check.changesNothing("a second cut", CutTest::wasCut, PlotKernel::cut);
    }

    private static PlotKernel wasCut() {
        PlotKernel x = Check.ticked(19, 2, 25, 0, 3, 1, 4, 2, 1);
        x.cut();
        return x;
    }

    private static void withoutCommands() {
        Check.promise(7, "When the power is cut: the carriage goes to where it was behind so many steps of it");
        Check.due("cut of a new object", new PlotKernel().cut(), 0);
        Check.changesNothing("cut of a new object", PlotKernel::new, PlotKernel::cut);
        PlotKernel x = Check.ticked(1000, 2, 5, 7);
        Check.due("cut behind all commands", x.cut(), 0);
        Check.due("at", x.at(), 705);
        Check.due("queued", x.queued(), 0);
        Check.due("timeLeft", x.timeLeft(), 0);
        Check.feedAll(x, 1, 94, 92);
        Check.due("errors", x.errors(), 0);
    }

    private static void forgetsLowering() {
        Check.promise(7, "ticks of lifting, lowering or changing that were begun are forgotten");
        PlotKernel x = Check.ticked(1, 2, 20, 0);
        Check.due("timeLeft behind a tick of lowering", x.timeLeft(), 21);
        Check.due("cut", x.cut(), 0);
        Check.due("timeLeft behind the cut", x.timeLeft(), 22);
        x.tick(1);
        Check.no("isDown behind one tick more", x.isDown());
        x.tick(1);
        Check.yes("isDown behind two ticks more", x.isDown());
        Check.due("tick", x.tick(1), 1);
    }

    private static void forgetsLifting() {
        Check.promise(7, "ticks of lifting, lowering or changing that were begun are forgotten");
        int[][] next = {{1, 7, 0}, {3, 1}};
        for (int[] command : next) {
            PlotKernel x = Check.ticked(3, 2, 1, 0);
            Check.feedAll(x, command);
            int alone = command[0] == 1 ? 7 : 3;
            Check.due("timeLeft", x.timeLeft(), 2 + alone);
            x.tick(1);
            Check.due("timeLeft behind a tick of lifting", x.timeLeft(), 1 + alone);
            Check.due("cut", x.cut(), 0);
            Check.no("isDown behind the cut", x.isDown());
            Check.due("timeLeft behind the cut", x.timeLeft(), alone);
            Check.due("steps", x.tick(1), command[0] == 1 ? 1 : 0);
            x.tick(alone - 1);
            Check.due("queued", x.queued(), 0);
        }
        PlotKernel y = Check.ticked(4, 2, 1, 0, 1, 1, 0, 2, 1, 0);
        y.cut();
        y.tick(2);
        Check.no("the tick of lifting does not lower the next DRAW's pen", y.isDown());
        y.tick(1);
        Check.yes("its own two do", y.isDown());
    }

    private static void forgetsChanging() {
        Check.promise(7, "ticks of lifting, lowering or changing that were begun are forgotten");
        for (int begun = 0; begun <= 2; begun++) {
            PlotKernel x = Check.fed(3, 2);
            for (int i = 0; i < begun; i++) {
                x.tick(1);
            }
            Check.due("cut behind " + begun, x.cut(), 0);
            Check.due("timeLeft behind " + begun + " and a cut", x.timeLeft(), 3);
            x.tick(2);
            Check.due("pen behind two ticks more", x.pen(), 0);
            Check.due("queued", x.queued(), 1);
            x.tick(1);
            Check.due("pen behind three ticks more", x.pen(), 2);
            Check.due("queued", x.queued(), 0);
        }
    }

    private static void keepsTheQueue() {
        Check.promise(7, "It has the queue as it is, with the pen that the carriage has");
        PlotKernel x = Check.ticked(5, 2, 1, 0, 4, 6, 4, 9);
        Check.due("queued", x.queued(), 13);
        x.cut();
        Check.due("queued behind a cut, though above 8", x.queued(), 13);
        Check.no("a byte is refused still", x.feed(0));
        Check.due("steps", x.tick(1000), 13);
        Check.due("at", x.at(), 16);
        PlotKernel y = Check.ticked(14, 1, 15, 0, 3, 1, 2, 0, 3, 1, 1, 1);
        y.cut();
        Check.due("queued", y.queued(), 4);
        Check.due("timeLeft", y.timeLeft(), 5 + 3 + 2 + 3 + 2 + 1);
        y.tick(1000);
        Check.due("at", y.at(), 416);
        Check.due("ink(1)", y.ink(1), 497);
    }

    private static void keepsThePen() {
        Check.promise(7, "It has the queue as it is, with the pen that the carriage has");
        for (int pen = 0; pen <= 2; pen++) {
            PlotKernel x = Check.ticked(10, 3, pen, 2, 20, 0, 3, (pen + 1) % 3);
            x.cut();
            Check.due("pen behind a cut", x.pen(), pen);
            Check.due("the cut of a drawing", x.tick(22), 20);
            Check.due("ink(" + pen + ")", x.ink(pen), 500 - 5 - 20);
            Check.due("pen", x.pen(), pen);
            x.tick(4);
            x.cut();
            Check.due("pen behind a cut while it is changed", x.pen(), pen);
        }
    }

    private static void liftsThePen() {
        Check.promise(7, "the pen is up, and the bytes of a command that is not whole are lost.");
        for (int ticks = 2; ticks <= 30; ticks++) {
            PlotKernel x = Check.ticked(ticks, 2, 25, 0);
            Check.yes("isDown", x.isDown());
            x.cut();
            Check.no("isDown behind a cut at " + ticks, x.isDown());
            if (ticks >= 27) {
                Check.feedAll(x, 2, 1, 0);
                Check.due("it is lowered anew", x.timeLeft(), 3);
            }
        }
        PlotKernel x = Check.ticked(3, 1, 25, 0);
        x.cut();
        Check.no("isDown behind a cut with the pen up", x.isDown());
    }

    private static void losesPendingBytes() {
        Check.promise(7, "the pen is up, and the bytes of a command that is not whole are lost.");
        int[][] begun = {{1}, {2}, {1, 5}, {2, 5}, {3}, {4}};
        for (int[] bytes : begun) {
            PlotKernel x = Check.fed(1, 2, 2);
            Check.feedAll(x, bytes);
            Check.due("pending", x.pending(), bytes.length);
            x.cut();
            Check.due("pending behind a cut", x.pending(), 0);
            Check.due("errors behind a cut", x.errors(), 0);
            Check.feedAll(x, 3, 1);
            Check.due("queued", x.queued(), 2);
            Check.due("errors", x.errors(), 0);
            x.tick(5);
            Check.due("pen", x.pen(), 1);
        }
    }

    private static void keepsInkMarksAndCounts() {
        Check.promise(7, "Cuts the power, and starts anew.");
        PlotKernel x = Check.ticked(14, 2, 15, 0, 3, 1, 1, 0, 5, 99);
        Check.due("cut", x.cut(), 2);
        Check.due("ink is not given back", x.ink(0), 488);
        Check.due("marks stay", x.marks(), 13);
        Check.yes("also that of a step to be done again", x.isMarked(12, 0));
        Check.due("stepsDown", x.stepsDown(), 12);
        Check.due("errors", x.errors(), 1);
        Check.due("marksInTheEnd", x.marksInTheEnd(), 16);
    }

    private static void whileWaiting() {
        Check.promise(7, "the carriage goes to where it was behind so many steps of it, the steps beyond are to be done again");
        PlotKernel x = Check.fed(2, 20, 0);
        x.pour(0, 487);
        Check.due("tick", x.tick(100), 13);
        Check.yes("isWaiting", x.isWaiting());
        Check.due("cut", x.cut(), 3);
        Check.no("isWaiting with the pen up", x.isWaiting());
        Check.due("at", x.at(), 10);
        Check.due("tick", x.tick(100), 0);
        Check.yes("isWaiting", x.isWaiting());
        Check.due("refill", x.refill(0), 0);
        Check.due("tick", x.tick(100), 10);
        Check.due("ink", x.ink(0), 490);
    }

    private static void theMarksAreThoseOfADrawingThatWasNotCut() {
        Check.promise(7, "Cuts the power, and starts anew.");
        PlotKernel whole = drawnWithCuts(0);
        for (int period = 13; period < 60; period++) {
            int each = period;
            PlotKernel x = drawnWithCuts(period);
            Check.due("queued with cuts each " + period, x.queued(), 0);
            Check.due("marks with cuts each " + period, x.marks(), whole.marks());
            Check.due("marksInTheEnd", x.marksInTheEnd(), whole.marks());
            Check.due("at", x.at(), whole.at());
            Check.due("pen", x.pen(), whole.pen());
            Check.yes("the marked cells", Check.marked(() -> drawnWithCuts(each)).equals(Check.marked(() -> drawnWithCuts(0))));
        }
    }

    private static PlotKernel drawnWithCuts(int period) {
        PlotKernel x = Check.fed(1, 3, 40, 2, 45, 17, 3, 2, 2, 10, 41, 1, -5, -20, 2, -41, 6, 4, 1);
        for (int i = 0; i < 40 && x.queued() > 0; i++) {
            x.tick(period == 0 ? 1000 : period);
            if (period > 0) {
                x.cut();
            }
        }
        return x;
    }
}
