import java.util.List;
import java.util.function.Supplier;

/** Promises 1 to 5: a new object, feed, errors, queued, pending. RightCommandsTest looks at which commands are right. */
public final class BytesTest {
    private static final int[] SEVEN_PENS = {3, 0, 3, 0, 3, 0, 3, 0, 3, 0, 3, 0, 3, 0};
    private static final int[] EIGHT_PENS = {3, 0, 3, 0, 3, 0, 3, 0, 3, 0, 3, 0, 3, 0, 3, 1};
    private static final int[] SEVEN_AND_NINE = {2, 1, 0, 4, 6, 4, 9};

    public static void main(String[] args) {
        newObject();
        newCarriage();
        newInk();
        newObjectsShareNothing();
        feedsOneByte();
        bytesOutOfRange();
        firstAndLastByte();
        takenWithSevenQueued();
        refusedWithEightQueued();
        refusedWithMoreThanEightQueued();
        takenAgainWhenACommandIsDone();
        aBegunCommandIsNotQueued();
        answersWhetherItIsTaken();
        zeroAloneIsNothing();
        zeroInsideACommandIsAByteOfIt();
        otherBytesAreErrors();
        otherBytesInsideACommandAreNone();
        errorsAreCounted();
        errorsAreNoRefusals();
        errorsStayBehindACut();
        errorsOfALongRun();
        queuedCounts();
        queuedWithTheOneThatGoesOn();
        pendingOfTwoByteCommands();
        pendingOfThreeByteCommands();
        pendingBehindErrors();
        pendingInAFullQueue();
        Check.end();
    }

    private static void newObject() {
        Check.promise(1, "Begins with an empty queue and clean paper.");
        PlotKernel x = new PlotKernel();
        Check.due("queued", x.queued(), 0);
        Check.due("pending", x.pending(), 0);
        Check.due("errors", x.errors(), 0);
        Check.no("isWaiting", x.isWaiting());
        Check.due("timeLeft", x.timeLeft(), 0);
        Check.due("stepsUp", x.stepsUp(), 0);
        Check.due("stepsDown", x.stepsDown(), 0);
        Check.due("marks", x.marks(), 0);
        Check.due("marksInTheEnd", x.marksInTheEnd(), 0);
        Check.due("marked cells", Check.marked(PlotKernel::new).cardinality(), 0);
        Check.due("tick", x.tick(1000), 0);
        Check.due("cut", x.cut(), 0);
        Check.due("marks behind these", x.marks(), 0);
    }

    private static void newCarriage() {
        Check.promise(1, "The carriage is at a cell, at first 0 and 0; it has one of the pens 0 to 2, at first 0, "
                + "which is up or down, at first up.");
        PlotKernel x = new PlotKernel();
        Check.due("at", x.at(), 0);
        Check.due("pen", x.pen(), 0);
        Check.no("isDown", x.isDown());
        Check.due("a MOVE is a step at once", Check.fed(1, 1, 0).tick(1), 1);
    }

    private static void newInk() {
        Check.promise(1, "Each pen has ink, 0 to 500, at first 500.");
        for (int pen = 0; pen < 3; pen++) {
            Check.due("ink(" + pen + ")", new PlotKernel().ink(pen), 500);
            Check.due("refill(" + pen + ")", new PlotKernel().refill(pen), 500);
        }
    }

    private static void newObjectsShareNothing() {
        Check.promise(1, "Begins with an empty queue and clean paper.");
        PlotKernel older = new PlotKernel();
        String before = Check.answers(older);
        PlotKernel used = Check.ticked(20, 2, 5, 5, 3, 1, 9, 1, 8, 8, 4);
        used.pour(2, 100);
        Check.yes("an object is used", !before.equals(Check.answers(used)));
        Check.yes("an older one is as it was", before.equals(Check.answers(older)));
        Check.no("its cells too", older.isMarked(0, 0) || older.isMarked(5, 5));
        Check.yes("a newer one is as new as it", before.equals(Check.answers(new PlotKernel())));
        Check.due("marked cells", Check.marked(PlotKernel::new).cardinality(), 0);
    }

    private static void feedsOneByte() {
        Check.promise(2, "Feeds a byte.");
        PlotKernel x = new PlotKernel();
        int[] bytes = {1, 2, 3, 2, 1, 1, 3, 1, 4, 2};
        int[] queued = {0, 0, 1, 1, 1, 2, 2, 3, 3, 5};
        for (int i = 0; i < bytes.length; i++) {
            Check.yes("feed(" + bytes[i] + ")", x.feed(bytes[i]));
            Check.due("queued behind byte " + (i + 1), x.queued(), queued[i]);
        }
        x.tick(1000);
        Check.due("at", x.at(), 605);
    }

    private static void bytesOutOfRange() {
        Check.promise(2, "Throws `IllegalArgumentException` if value is out of range");
        List<Supplier<PlotKernel>> makers = states();
        int[] wrong = {-1, -2, -128, -255, -256, 256, 257, 260, 1000, Integer.MIN_VALUE, Integer.MAX_VALUE};
        for (int i = 0; i < makers.size(); i++) {
            for (int value : wrong) {
                Check.mustThrow("feed(" + value + ") in state " + i, IllegalArgumentException.class, makers.get(i),
                        x -> x.feed(value));
            }
        }
    }

    private static void firstAndLastByte() {
        Check.promise(2, "Throws `IllegalArgumentException` if value is out of range");
        List<Supplier<PlotKernel>> makers = states();
        for (int i = 0; i < makers.size(); i++) {
            Check.mustNotThrow("feed(0) in state " + i, makers.get(i), x -> x.feed(0));
            Check.mustNotThrow("feed(255) in state " + i, makers.get(i), x -> x.feed(255));
        }
    }

    /** Empty; with one and two bytes pending; with a REPEAT and a PEN begun; full; fuller. */
    private static List<Supplier<PlotKernel>> states() {
        return List.of(
                PlotKernel::new,
                () -> Check.fed(2, 5, 5, 1),
                () -> Check.fed(2, 5, 5, 1, 7),
                () -> Check.ticked(4, 2, 5, 5, 4),
                () -> Check.ticked(1, 2, 5, 5, 3),
                () -> Check.fed(EIGHT_PENS),
                () -> Check.ticked(3, SEVEN_AND_NINE));
    }

    private static void promiseToTakeOrRefuse() {
        Check.promise(2, "A byte, 0 to 255, is taken if fewer than 8 commands are queued; otherwise it is refused, "
                + "and nothing changes.");
    }

    private static void takenWithSevenQueued() {
        promiseToTakeOrRefuse();
        for (int value = 0; value <= 255; value++) {
            PlotKernel x = Check.fed(SEVEN_PENS);
            Check.due("queued", x.queued(), 7);
            Check.yes("feed(" + value + ") with 7 queued", x.feed(value));
            Check.due("pending behind " + value, x.pending(), value >= 1 && value <= 4 ? 1 : 0);
            Check.due("errors behind " + value, x.errors(), value > 4 ? 1 : 0);
        }
    }

    private static void refusedWithEightQueued() {
        promiseToTakeOrRefuse();
        PlotKernel x = Check.fed(EIGHT_PENS);
        Check.due("queued", x.queued(), 8);
        String before = Check.answers(x);
        for (int value = 0; value <= 255; value++) {
            Check.no("feed(" + value + ") with 8 queued", x.feed(value));
        }
        Check.yes("256 refused bytes change nothing", before.equals(Check.answers(x)));
        for (int value = 0; value <= 5; value++) {
            int refused = value;
            Check.changesNothing("feed(" + value + ") with 8 queued", () -> Check.fed(EIGHT_PENS), y -> y.feed(refused));
        }
    }

    private static void refusedWithMoreThanEightQueued() {
        promiseToTakeOrRefuse();
        for (int value = 0; value <= 255; value++) {
            PlotKernel x = Check.fed(SEVEN_AND_NINE);
            Check.due("queued", x.queued(), 16);
            Check.no("feed(" + value + ") with 16 queued", x.feed(value));
            Check.due("queued", x.queued(), 16);
        }
        Check.changesNothing("feed(4) with 16 queued", () -> Check.ticked(5, SEVEN_AND_NINE), x -> x.feed(4));
        Check.changesNothing("feed(9) with 9 queued", () -> Check.fed(2, 1, 0, 4, 8), x -> x.feed(9));
    }

    private static void takenAgainWhenACommandIsDone() {
        promiseToTakeOrRefuse();
        PlotKernel x = Check.ticked(2, EIGHT_PENS);
        Check.no("feed while the eighth goes on", x.feed(3));
        x.tick(1);
        Check.due("queued", x.queued(), 7);
        Check.yes("feed behind it", x.feed(3));
        Check.due("pending", x.pending(), 1);
        PlotKernel y = Check.ticked(2, SEVEN_AND_NINE);
        for (int left = 16; left > 7; left--) {
            Check.due("queued", y.queued(), left);
            Check.no("feed with " + left + " queued", y.feed(7));
            y.tick(1);
        }
        Check.yes("feed with 7 queued", y.feed(7));
        Check.due("errors", y.errors(), 1);
    }

    private static void aBegunCommandIsNotQueued() {
        promiseToTakeOrRefuse();
        PlotKernel x = Check.fed(SEVEN_PENS);
        Check.feedAll(x, 1, 5);
        Check.due("queued", x.queued(), 7);
        Check.yes("its last byte", x.feed(6));
        Check.due("queued", x.queued(), 8);
        Check.no("the next one's first byte", x.feed(1));
        x.tick(1000);
        Check.due("at", x.at(), 605);
    }

    private static void answersWhetherItIsTaken() {
        Check.promise(2, "Returns whether it is taken.");
        Check.yes("an error's byte is taken", new PlotKernel().feed(5));
        Check.yes("a byte that is nothing is taken", new PlotKernel().feed(0));
        Check.yes("the last byte of a wrong MOVE is taken", Check.fed(1, 0).feed(0));
        Check.yes("the last byte of a wrong REPEAT is taken", Check.fed(4).feed(1));
        Check.no("with 8 queued it is not", Check.fed(EIGHT_PENS).feed(0));
    }

    private static void zeroAloneIsNothing() {
        Check.promise(2, "0 alone is nothing");
        Check.changesNothing("feed(0) of a new object", PlotKernel::new, x -> x.feed(0));
        Check.changesNothing("feed(0) behind a DRAW", () -> Check.ticked(3, 2, 5, 5), x -> x.feed(0));
        Check.changesNothing("feed(0) behind an error", () -> Check.fed(9), x -> x.feed(0));
        PlotKernel x = Check.fed(0, 0, 0, 1, 1, 0, 0, 0);
        Check.due("queued among 0s", x.queued(), 1);
        Check.due("pending behind 0s", x.pending(), 0);
        Check.due("errors behind 0s", x.errors(), 0);
    }

    private static void zeroInsideACommandIsAByteOfIt() {
        Check.promise(2, "0 alone is nothing");
        PlotKernel x = Check.fed(1, 0, 9, 1, 9, 0, 3, 0);
        Check.due("queued", x.queued(), 3);
        Check.due("errors", x.errors(), 0);
        Check.due("pending", x.pending(), 0);
        x.tick(1000);
        Check.due("at", x.at(), 909);
    }

    private static void otherBytesAreErrors() {
        Check.promise(3, "Any other byte at the beginning of a command is an error, and no command.");
        for (int value = 5; value <= 255; value++) {
            PlotKernel x = Check.fed(value);
            Check.due("errors behind " + value, x.errors(), 1);
            Check.due("pending behind " + value, x.pending(), 0);
            Check.due("queued behind " + value, x.queued(), 0);
            Check.feedAll(x, 1, 2, 3);
            Check.due("queued behind " + value + " and a MOVE", x.queued(), 1);
            Check.due("errors behind " + value + " and a MOVE", x.errors(), 1);
        }
        for (int value = 0; value <= 4; value++) {
            Check.due("errors behind " + value, Check.fed(value).errors(), 0);
        }
    }

    private static void otherBytesInsideACommandAreNone() {
        Check.promise(3, "Any other byte at the beginning of a command is an error, and no command.");
        PlotKernel x = Check.fed(1, 5, 99, 2, 5, 255, 1, 4, 3);
        Check.due("errors", x.errors(), 1);
        Check.due("queued", x.queued(), 2);
        Check.feedAll(x, 1, 255, 255);
        Check.due("errors", x.errors(), 1);
        Check.due("queued", x.queued(), 3);
    }

    private static void errorsAreCounted() {
        Check.promise(3, "Returns how many errors there were.");
        PlotKernel x = new PlotKernel();
        int[][] wrong = {{5}, {255}, {1, 0, 0}, {2, 0, 0}, {1, -1, 0}, {2, 0, 100}, {3, 3}, {4, 1}, {4, 0}, {4, 10}};
        for (int i = 0; i < wrong.length; i++) {
            Check.feedAll(x, wrong[i]);
            Check.due("errors behind wrong command " + i, x.errors(), i + 1);
            Check.due("queued", x.queued(), 0);
        }
        Check.feedAll(x, 0, 1, 1, 1, 2, 1, 1, 3, 2, 4, 1);
        Check.due("errors behind right commands", x.errors(), wrong.length);
        Check.due("asking again", x.errors(), wrong.length);
    }

    private static void errorsAreNoRefusals() {
        Check.promise(3, "Returns how many errors there were.");
        PlotKernel x = Check.fed(EIGHT_PENS);
        Check.no("feed", x.feed(99));
        Check.due("errors behind a refused byte", x.errors(), 0);
        Supplier<PlotKernel> one = () -> Check.fed(99);
        Check.mustThrow("feed(300)", IllegalArgumentException.class, one, y -> y.feed(300));
        Check.mustThrow("tick(0)", IllegalArgumentException.class, one, y -> y.tick(0));
        Check.mustThrow("ink(3)", IndexOutOfBoundsException.class, one, y -> y.ink(3));
    }

    private static void errorsStayBehindACut() {
        Check.promise(3, "Returns how many errors there were.");
        PlotKernel x = Check.fed(99, 1, 0, 0, 1, 50);
        x.cut();
        Check.due("errors behind a cut", x.errors(), 2);
        Check.feedAll(x, 100);
        Check.due("errors behind one more", x.errors(), 3);
    }

    private static void errorsOfALongRun() {
        Check.promise(3, "Returns how many errors there were.");
        PlotKernel x = new PlotKernel();
        for (int i = 0; i < 511; i++) {
            x.feed(255);
        }
        Check.due("the 512th call", x.errors(), 511);
        PlotKernel y = Check.fed(1, 99, 0);
        for (int i = 0; i < 254; i++) {
            y.feed(4);
            y.feed(9);
        }
        Check.due("the 512th call", y.errors(), 254 * 9);
    }

    private static void queuedCounts() {
        Check.promise(4, "Returns how many commands are queued, the one that goes on included.");
        PlotKernel x = new PlotKernel();
        for (int i = 1; i <= 8; i++) {
            Check.feedAll(x, i % 3 + 1, i % 3 == 2 ? 2 : 1);
            if (i % 3 != 2) {
                Check.due("queued behind its second byte", x.queued(), i - 1);
                Check.feedAll(x, 1);
            }
            Check.due("queued", x.queued(), i);
        }
        Check.due("queued behind a REPEAT", Check.fed(SEVEN_AND_NINE).queued(), 16);
        Check.due("queued behind an error", Check.fed(1, 1, 1, 1, 0, 0).queued(), 1);
    }

    private static void queuedWithTheOneThatGoesOn() {
        Check.promise(4, "Returns how many commands are queued, the one that goes on included.");
        PlotKernel x = Check.fed(2, 2, 0, 3, 1, 1, 1, 0);
        int[] queued = {3, 3, 3, 2, 2, 2, 2, 2, 1, 0, 0};
        for (int i = 0; i < queued.length; i++) {
            x.tick(1);
            Check.due("queued behind tick " + (i + 1), x.queued(), queued[i]);
        }
    }

    private static void pendingOfTwoByteCommands() {
        Check.promise(5, "Returns how many bytes of a command that is not whole have been taken.");
        for (int kind = 3; kind <= 4; kind++) {
            PlotKernel x = Check.fed(1, 1, 1);
            Check.due("pending ahead of it", x.pending(), 0);
            Check.feedAll(x, kind);
            Check.due("pending behind " + kind, x.pending(), 1);
            Check.due("asking again", x.pending(), 1);
            Check.feedAll(x, 1);
            Check.due("pending behind the whole", x.pending(), 0);
            Check.due("queued", x.queued(), 2);
        }
    }

    private static void pendingOfThreeByteCommands() {
        Check.promise(5, "Returns how many bytes of a command that is not whole have been taken.");
        for (int kind = 1; kind <= 2; kind++) {
            for (int dx = 0; dx <= 9; dx++) {
                PlotKernel x = Check.fed(kind);
                Check.due("pending behind " + kind, x.pending(), 1);
                Check.feedAll(x, dx);
                Check.due("pending behind " + kind + " and " + dx, x.pending(), 2);
                x.tick(1000);
                Check.due("ticks change nothing of it", x.pending(), 2);
                Check.due("queued", x.queued(), 0);
                Check.feedAll(x, 1);
                Check.due("pending behind the whole", x.pending(), 0);
                Check.due("queued", x.queued(), 1);
            }
        }
    }

    private static void pendingBehindErrors() {
        Check.promise(5, "Returns how many bytes of a command that is not whole have been taken.");
        int[][] wrong = {{5}, {255}, {0}, {1, 0, 0}, {2, 100, 0}, {3, 3}, {3, 255}, {4, 0}, {4, 10}, {4, 5}};
        for (int i = 0; i < wrong.length; i++) {
            PlotKernel x = Check.fed(wrong[i]);
            Check.due("pending behind wrong command " + i, x.pending(), 0);
            Check.feedAll(x, 2);
            Check.due("the next byte begins a command", x.pending(), 1);
        }
    }

    private static void pendingInAFullQueue() {
        Check.promise(5, "Returns how many bytes of a command that is not whole have been taken.");
        PlotKernel x = Check.fed(EIGHT_PENS);
        x.feed(1);
        Check.due("a refused byte is not taken", x.pending(), 0);
        x.tick(3);
        Check.feedAll(x, 1);
        Check.due("a taken one is", x.pending(), 1);
        Check.mustThrow("feed(256)", IllegalArgumentException.class, () -> Check.fed(1, 7), y -> y.feed(256));
    }
}
