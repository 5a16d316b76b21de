import java.util.List;
import java.util.function.Consumer;
import java.util.function.Supplier;

/** Promises 8, 9, 13 and 14: refill, pour, ink, isWaiting. */
public final class InkTest {
    private static final int[] WRONG_PENS = {-1, -2, 3, 4, 100, 500, Integer.MIN_VALUE, Integer.MAX_VALUE};
    private static final int[] WRONG_AMOUNTS = {0, -1, -500, 501, 502, 1000, Integer.MIN_VALUE, Integer.MAX_VALUE};

    public static void main(String[] args) {
        refillOfNoPen();
        refillFills();
        refillAnswersWhatItHad();
        refillOfOnePen();
        pourOfNoPen();
        pourOfAWrongAmount();
        pourOfNoPenAndAWrongAmount();
        firstAndLastAmount();
        pourOfLessThanThereIs();
        pourOfAllThatThereIs();
        pourOfMoreThanThereIs();
        pourOfOnePen();
        inkOfNoPen();
        inkOfEachPen();
        inkOfThePenThatDraws();
        waitsInTheNextTick();
        waitsNotWithoutCommands();
        waitsNotWithThePenUp();
        waitsNotForOtherCommands();
        waitsForThePenThatItHas();
        waitsNoMoreBehindARefill();
        waitsNotBehindACut();
        Check.end();
    }

    /** New; drawing, with bytes pending; waiting; lifting; full. */
    private static List<Supplier<PlotKernel>> states() {
        return List.of(
                PlotKernel::new,
                () -> Check.ticked(4, 2, 5, 5, 1, 7),
                () -> waiting(0),
                () -> Check.ticked(7, 3, 2, 2, 1, 1, 3, 1, 4),
                () -> Check.fed(2, 1, 0, 4, 9));
    }

    /** The pen is down, and has no ink for the last 3 steps of a DRAW. */
    private static PlotKernel waiting(int pen) {
        PlotKernel x = Check.fed(3, pen, 2, 5, 0);
        x.pour(pen, 498);
        x.tick(1000);
        return x;
    }

    private static void noPen(String what, CallOfAPen call) {
        for (Supplier<PlotKernel> maker : states()) {
            for (int pen : WRONG_PENS) {
                Check.mustThrow(what + " of pen " + pen, IndexOutOfBoundsException.class, maker, x -> call.make(x, pen));
            }
            for (int pen = 0; pen <= 2; pen++) {
                int right = pen;
                Check.mustNotThrow(what + " of pen " + pen, maker, x -> call.make(x, right));
            }
        }
    }

    interface CallOfAPen {
        int make(PlotKernel x, int pen);
    }

    private static void refillOfNoPen() {
        Check.promise(8, "Throws `IndexOutOfBoundsException` if there is no such pen");
        noPen("refill", (x, pen) -> x.refill(pen));
    }

    private static void refillFills() {
        Check.promise(8, "Fills a pen: it has 500 ink.");
        int[] amounts = {1, 2, 250, 499, 500};
        for (int pen = 0; pen <= 2; pen++) {
            for (int amount : amounts) {
                PlotKernel x = new PlotKernel();
                x.pour(pen, amount);
                x.refill(pen);
                Check.due("ink(" + pen + ") behind " + amount, x.ink(pen), 500);
                x.refill(pen);
                Check.due("a full pen is not fuller", x.ink(pen), 500);
            }
        }
    }

    private static void refillAnswersWhatItHad() {
        Check.promise(8, "Returns the ink that it had.");
        for (int pen = 0; pen <= 2; pen++) {
            PlotKernel x = new PlotKernel();
            Check.due("refill of a full pen", x.refill(pen), 500);
            x.pour(pen, 100 + pen);
            Check.due("refill", x.refill(pen), 400 - pen);
            x.pour(pen, 499);
            Check.due("refill of the last ink", x.refill(pen), 1);
            x.pour(pen, 500);
            Check.due("refill of an empty pen", x.refill(pen), 0);
            Check.due("refill behind a refill", x.refill(pen), 500);
        }
        Check.due("refill behind 2 steps", waiting(1).refill(1), 0);
        Check.due("refill behind 7 steps", Check.ticked(9, 2, 9, 9).refill(0), 493);
    }

    private static void refillOfOnePen() {
        Check.promise(8, "Fills a pen: it has 500 ink.");
        for (int pen = 0; pen <= 2; pen++) {
            PlotKernel x = new PlotKernel();
            for (int each = 0; each <= 2; each++) {
                x.pour(each, 100 * (each + 1));
            }
            x.refill(pen);
            for (int each = 0; each <= 2; each++) {
                Check.due("ink(" + each + ") behind refill(" + pen + ")", x.ink(each), each == pen ? 500 : 400 - 100 * each);
            }
        }
    }

    private static void pourOfNoPen() {
        Check.promise(9, "Throws `IndexOutOfBoundsException` if there is no such pen");
        noPen("pour(.., 1)", (x, pen) -> x.pour(pen, 1));
        noPen("pour(.., 500)", (x, pen) -> x.pour(pen, 500));
    }

    private static void pourOfAWrongAmount() {
        Check.promise(9, "Throws `IllegalArgumentException` if amount is out of range");
        for (Supplier<PlotKernel> maker : states()) {
            for (int amount : WRONG_AMOUNTS) {
                for (int pen = 0; pen <= 2; pen++) {
                    int right = pen;
                    Check.mustThrow("pour(" + pen + ", " + amount + ")", IllegalArgumentException.class, maker,
                            x -> x.pour(right, amount));
                }
            }
        }
    }

    private static void pourOfNoPenAndAWrongAmount() {
        Check.promise(9, "If several exceptions of a throws clause apply, the one that is listed first is thrown.");
        for (int pen : WRONG_PENS) {
            for (int amount : WRONG_AMOUNTS) {
                Consumer<PlotKernel> pour = x -> x.pour(pen, amount);
                Check.mustThrow("pour(" + pen + ", " + amount + ")", IndexOutOfBoundsException.class, PlotKernel::new, pour);
            }
        }
    }

    private static void firstAndLastAmount() {
        Check.promise(9, "1 to 500; all, if it has less");
        for (int pen = 0; pen <= 2; pen++) {
            Check.due("pour(" + pen + ", 1)", new PlotKernel().pour(pen, 1), 499);
            Check.due("pour(" + pen + ", 2)", new PlotKernel().pour(pen, 2), 498);
            Check.due("pour(" + pen + ", 499)", new PlotKernel().pour(pen, 499), 1);
            Check.due("pour(" + pen + ", 500)", new PlotKernel().pour(pen, 500), 0);
        }
    }

    private static void pourOfLessThanThereIs() {
        Check.promise(9, "Returns the ink that is left.");
        PlotKernel x = new PlotKernel();
        int left = 500;
        for (int amount = 1; amount <= 31; amount++) {
            left -= amount;
            Check.due("pour of " + amount, x.pour(1, amount), left);
            Check.due("ink", x.ink(1), left);
        }
    }

    private static void pourOfAllThatThereIs() {
        Check.promise(9, "1 to 500; all, if it has less");
        for (int has = 1; has <= 499; has++) {
            PlotKernel x = new PlotKernel();
            x.pour(2, 500 - has);
            Check.due("pour of all " + has, x.pour(2, has), 0);
            Check.due("ink", x.ink(2), 0);
        }
    }

    private static void pourOfMoreThanThereIs() {
        Check.promise(9, "1 to 500; all, if it has less");
        int[] amounts = {1, 2, 9, 250, 499, 500};
        for (int has = 0; has <= 12; has++) {
            for (int amount : amounts) {
                PlotKernel x = new PlotKernel();
                x.pour(0, 500 - has);
                Check.due("pour of " + amount + " out of " + has, x.pour(0, amount), Math.max(0, has - amount));
                Check.due("ink", x.ink(0), Math.max(0, has - amount));
            }
        }
    }

    private static void pourOfOnePen() {
        Check.promise(9, "Pours ink out of a pen.");
        for (int pen = 0; pen <= 2; pen++) {
            PlotKernel x = Check.ticked(3, 3, 2);
            Check.due("pour(" + pen + ", 30)", x.pour(pen, 30), 470);
            for (int each = 0; each <= 2; each++) {
                Check.due("ink(" + each + ")", x.ink(each), each == pen ? 470 : 500);
            }
        }
    }

    private static void inkOfNoPen() {
        Check.promise(13, "Throws `IndexOutOfBoundsException` if there is no such pen");
        noPen("ink", (x, pen) -> x.ink(pen));
    }

    private static void inkOfEachPen() {
        Check.promise(13, "Returns the ink of a pen.");
        for (int pen = 0; pen <= 2; pen++) {
            int asked = pen;
            Check.due("ink(" + pen + ") of a new object", new PlotKernel().ink(pen), 500);
            PlotKernel x = new PlotKernel();
            x.pour(pen, 500);
            Check.due("ink(" + pen + ") of an empty pen", x.ink(pen), 0);
            Check.changesNothing("ink(" + pen + ")", () -> waiting(asked), y -> y.ink(asked));
        }
    }

    private static void inkOfThePenThatDraws() {
        Check.promise(13, "Returns the ink of a pen.");
        PlotKernel x = Check.ticked(1000, 2, 3, 0, 3, 2, 2, 5, 0, 3, 1, 2, 0, 7, 1, 1, 1);
        Check.due("ink(0)", x.ink(0), 497);
        Check.due("ink(1)", x.ink(1), 493);
        Check.due("ink(2)", x.ink(2), 495);
    }

    private static void waitsInTheNextTick() {
        Check.promise(14, "Tells whether the machine would wait for ink in the next tick.");
        for (int pen = 0; pen <= 2; pen++) {
            PlotKernel x = Check.fed(3, pen, 2, 5, 0, 2, 5, 0);
            x.pour(pen, 493);
            for (int ticks = 1; ticks <= 3 + 2 + 7; ticks++) {
                Check.no("isWaiting ahead of tick " + ticks, x.isWaiting());
                x.tick(1);
            }
            Check.yes("isWaiting behind the last ink", x.isWaiting());
            Check.due("tick", x.tick(1), 0);
            Check.yes("isWaiting while it waits", x.isWaiting());
        }
    }

    private static void waitsNotWithoutCommands() {
        Check.promise(14, "Tells whether the machine would wait for ink in the next tick.");
        PlotKernel x = new PlotKernel();
        x.pour(0, 500);
        Check.no("isWaiting with the pen up", x.isWaiting());
        PlotKernel y = Check.fed(2, 5, 0);
        y.pour(0, 495);
        y.tick(7);
        Check.due("ink", y.ink(0), 0);
        Check.yes("isDown", y.isDown());
        Check.no("isWaiting behind the last step of all, with the last ink", y.isWaiting());
        Check.feedAll(y, 2, 1);
        Check.no("isWaiting with a DRAW that is not whole", y.isWaiting());
        Check.feedAll(y, 0);
        Check.yes("isWaiting with it", y.isWaiting());
    }

    private static void waitsNotWithThePenUp() {
        Check.promise(14, "Tells whether the machine would wait for ink in the next tick.");
        PlotKernel x = Check.fed(2, 2, 0);
        x.pour(0, 500);
        Check.no("isWaiting ahead of lowering", x.isWaiting());
        x.tick(1);
        Check.no("isWaiting between its ticks", x.isWaiting());
        x.tick(1);
        Check.yes("isWaiting behind lowering", x.isWaiting());
        Check.due("lowering marks without ink", x.marks(), 1);
    }

    private static void waitsNotForOtherCommands() {
        Check.promise(14, "Tells whether the machine would wait for ink in the next tick.");
        int[][] others = {{1, 2, 0, 2, 1, 0}, {3, 0, 2, 1, 0}, {1, 1, 0}, {3, 1}};
        for (int[] other : others) {
            PlotKernel x = Check.ticked(3, 2, 1, 0);
            x.pour(0, 500);
            Check.feedAll(x, other);
            int alone = 2 + (other[0] == 3 ? 3 : other[1]);
            for (int i = 0; i < alone; i++) {
                Check.no("isWaiting ahead of tick " + (i + 1), x.isWaiting());
                x.tick(1);
            }
            Check.no("isWaiting with the pen up", x.isWaiting());
        }
    }

    private static void waitsForThePenThatItHas() {
        Check.promise(14, "Tells whether the machine would wait for ink in the next tick.");
        for (int empty = 0; empty <= 2; empty++) {
            for (int held = 0; held <= 2; held++) {
                PlotKernel x = Check.fed(3, held, 2, 5, 0);
                x.pour(empty, 500);
                x.tick(5);
                Check.due("isWaiting with " + held + " if " + empty + " is empty", x.isWaiting() ? 1 : 0, held == empty ? 1 : 0);
                Check.due("tick", x.tick(1), held == empty ? 0 : 1);
            }
        }
    }

    private static void waitsNoMoreBehindARefill() {
        Check.promise(14, "Tells whether the machine would wait for ink in the next tick.");
        for (int pen = 0; pen <= 2; pen++) {
            PlotKernel x = waiting(pen);
            Check.yes("isWaiting", x.isWaiting());
            x.refill((pen + 1) % 3);
            Check.yes("another pen's refill does not help", x.isWaiting());
            x.refill(pen);
            Check.no("isWaiting behind its own", x.isWaiting());
            x.pour(pen, 499);
            Check.no("isWaiting with 1 ink", x.isWaiting());
            Check.due("tick", x.tick(1000), 1);
            Check.yes("isWaiting behind it", x.isWaiting());
        }
    }

    private static void waitsNotBehindACut() {
        Check.promise(14, "Tells whether the machine would wait for ink in the next tick.");
        PlotKernel x = waiting(0);
        x.cut();
        Check.no("isWaiting behind a cut: it is to be lowered first", x.isWaiting());
        x.tick(1);
        Check.no("isWaiting between the ticks of lowering", x.isWaiting());
        x.tick(1);
        Check.yes("isWaiting behind them", x.isWaiting());
    }
}
