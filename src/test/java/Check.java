import java.util.BitSet;
import java.util.function.Consumer;
import java.util.function.Supplier;

/**
 * What the tests share: the sentence that is tested, counting answers, and writing commands as bytes.
 *
 * The document promises nothing behind an object's 512th call. So what takes more calls than that is asked of many
 * objects of one maker, each of which answers a part.
 */
final class Check {
    private static final int CELLS = 10000;
    private static final int CELLS_AN_OBJECT = 250;
    private static final int TICK = -1;
    private static final int CUT = -2;
    private static final int EMPTY = -3;
    /** Ways to go on that show what no call tells: a command that is not whole, the latest one, ticks begun. */
    private static final int[][] WAYS_ON = {
        {TICK, TICK, TICK, TICK, TICK, TICK}, {1, TICK, 1, TICK, 1, TICK}, {7, 7, 7}, {4, 3, 4, 2, TICK},
        {CUT, TICK, TICK, TICK}, {TICK, CUT, 4, 1}, {EMPTY, TICK, TICK, TICK, TICK, 3, 1}, {2, 1, 1, 2, 255, 255},
    };

    private static String sentence = "";
    private static int right = 0;
    private static int wrong = 0;

    private Check() {
    }

    /** The answers that follow are due by these words of the document, as far as they bind that promise. */
    static void promise(int number, String words) {
        sentence = "Promise " + number + ", \"" + words + "\": ";
    }

    static void due(String what, long got, long want) {
        if (got == want) {
            right++;
        } else {
            wrong++;
            System.out.println(sentence + what + " answered " + got + ", due is " + want);
        }
    }

    static void yes(String what, boolean got) {
        due(what, got ? 1 : 0, 1);
    }

    static void no(String what, boolean got) {
        due(what, got ? 1 : 0, 0);
    }

    /** The call must throw just this exception, and change nothing. */
    static void mustThrow(String what, Class<?> exception, Supplier<PlotKernel> maker, Consumer<PlotKernel> call) {
        Class<?> thrown = thrownBy(maker.get(), call);
        yes(what + " throws " + exception.getSimpleName() + ", not " + thrown, thrown == exception);
        changesNothing(what, maker, call);
    }

    static void mustNotThrow(String what, Supplier<PlotKernel> maker, Consumer<PlotKernel> call) {
        Class<?> thrown = thrownBy(maker.get(), call);
        yes(what + " throws nothing, not " + thrown, thrown == null);
    }

    static void changesNothing(String what, Supplier<PlotKernel> maker, Consumer<PlotKernel> call) {
        alike(what + " changes nothing", maker, () -> {
            PlotKernel x = maker.get();
            thrownBy(x, call);
            return x;
        });
    }

    /** The objects of both makers must answer alike, now and in what follows. */
    static void alike(String what, Supplier<PlotKernel> one, Supplier<PlotKernel> other) {
        String now = answers(one.get());
        String otherNow = answers(other.get());
        yes(what + ", but " + now + " against " + otherNow, now.equals(otherNow));
        yes(what + " in the marks", marked(one).equals(marked(other)));
        for (int i = 0; i < WAYS_ON.length; i++) {
            yes(what + " in way on " + i, goOn(one.get(), WAYS_ON[i]).equals(goOn(other.get(), WAYS_ON[i])));
        }
    }

    private static Class<?> thrownBy(PlotKernel x, Consumer<PlotKernel> call) {
        try {
            call.accept(x);
        } catch (RuntimeException e) {
            return e.getClass();
        }
        return null;
    }

    /** The marked cells, 100 times y and x added. */
    static BitSet marked(Supplier<PlotKernel> maker) {
        BitSet cells = new BitSet();
        for (int from = 0; from < CELLS; from += CELLS_AN_OBJECT) {
            PlotKernel x = maker.get();
            for (int cell = from; cell < from + CELLS_AN_OBJECT; cell++) {
                cells.set(cell, x.isMarked(cell % 100, cell / 100));
            }
        }
        return cells;
    }

    /** What the calls without an argument tell, and the ink: 15 calls. */
    static String answers(PlotKernel x) {
        StringBuilder text = new StringBuilder();
        text.append("errors ").append(x.errors()).append(", queued ").append(x.queued());
        text.append(", pending ").append(x.pending()).append(", at ").append(x.at());
        text.append(", down ").append(x.isDown()).append(", pen ").append(x.pen()).append(", ink");
        for (int pen = 0; pen < 3; pen++) {
            text.append(' ').append(x.ink(pen));
        }
        text.append(", waiting ").append(x.isWaiting()).append(", left ").append(x.timeLeft());
        text.append(", up ").append(x.stepsUp()).append(", down ").append(x.stepsDown());
        text.append(", marks ").append(x.marks()).append(", in the end ").append(x.marksInTheEnd());
        return text.toString();
    }

    private static String goOn(PlotKernel x, int[] way) {
        StringBuilder text = new StringBuilder();
        for (int call : way) {
            if (call == TICK) {
                text.append(x.tick(1));
            } else if (call == CUT) {
                text.append(x.cut());
            } else if (call == EMPTY) {
                text.append(x.pour(0, 500) + x.pour(1, 500) + x.pour(2, 500));
            } else {
                text.append(x.feed(call));
            }
            text.append(answers(x));
        }
        return text.append(x.tick(1000)).append(answers(x)).toString();
    }

    /** Feeds bytes that must all be taken; those below 0 are written as they are meant. */
    static void feedAll(PlotKernel x, int... values) {
        for (int value : values) {
            yes("feed(" + (value & 255) + ")", x.feed(value & 255));
        }
    }

    static PlotKernel fed(int... values) {
        PlotKernel x = new PlotKernel();
        feedAll(x, values);
        return x;
    }

    /** Fed, and then so many ticks, 0 to 1000. */
    static PlotKernel ticked(int ticks, int... values) {
        PlotKernel x = fed(values);
        if (ticks > 0) {
            x.tick(ticks);
        }
        return x;
    }

    static void end() {
        System.out.println(right + " answers as due, " + wrong + " not");
        if (wrong > 0 || right == 0) {
            System.exit(1);
        }
    }
}
