/** The calls that throw: which exception, and that a run goes on as if they had not been made. */
public final class RefusedCallsTest {
    private interface Call {
        long make(PlotKernel x);
    }

    private record Refused(int promise, String text, Class<?> exception, Call call) {
    }

    private static final Class<?> INDEX = IndexOutOfBoundsException.class;
    private static final Class<?> ARGUMENT = IllegalArgumentException.class;

    private static final Refused[] REFUSED = {
        new Refused(2, "feed(-1)", ARGUMENT, x -> x.feed(-1) ? 1 : 0),
        new Refused(2, "feed(256)", ARGUMENT, x -> x.feed(256) ? 1 : 0),
        new Refused(6, "tick(0)", ARGUMENT, x -> x.tick(0)),
        new Refused(6, "tick(1001)", ARGUMENT, x -> x.tick(1001)),
        new Refused(8, "refill(-1)", INDEX, x -> x.refill(-1)),
        new Refused(8, "refill(3)", INDEX, x -> x.refill(3)),
        new Refused(9, "pour(-1, 1)", INDEX, x -> x.pour(-1, 1)),
        new Refused(9, "pour(3, 500)", INDEX, x -> x.pour(3, 500)),
        new Refused(9, "pour(0, 0)", ARGUMENT, x -> x.pour(0, 0)),
        new Refused(9, "pour(2, 501)", ARGUMENT, x -> x.pour(2, 501)),
        new Refused(9, "pour(3, 0)", INDEX, x -> x.pour(3, 0)),
        new Refused(9, "pour(-1, 501)", INDEX, x -> x.pour(-1, 501)),
        new Refused(13, "ink(-1)", INDEX, x -> x.ink(-1)),
        new Refused(13, "ink(3)", INDEX, x -> x.ink(3)),
        new Refused(18, "isMarked(-1, 0)", INDEX, x -> x.isMarked(-1, 0) ? 1 : 0),
        new Refused(18, "isMarked(0, -1)", INDEX, x -> x.isMarked(0, -1) ? 1 : 0),
        new Refused(18, "isMarked(100, 99)", INDEX, x -> x.isMarked(100, 99) ? 1 : 0),
        new Refused(18, "isMarked(99, 100)", INDEX, x -> x.isMarked(99, 100) ? 1 : 0),
    };

    /** A run through lowering, drawing, cuts, waiting, lifting, changing, a full queue, and commands that are not whole. */
    private static final Call[] RUN = {
        x -> x.feed(2) ? 1 : 0, x -> x.feed(14) ? 1 : 0, x -> x.feed(9) ? 1 : 0, x -> x.tick(1), x -> x.feed(4) ? 1 : 0,
        x -> x.tick(1), x -> x.feed(2) ? 1 : 0, x -> x.tick(13), x -> x.cut(), x -> x.tick(1), x -> x.feed(99) ? 1 : 0,
        x -> x.pour(0, 480), x -> x.tick(30), x -> x.feed(3) ? 1 : 0, x -> x.feed(1) ? 1 : 0, x -> x.tick(1),
        x -> x.refill(0), x -> x.tick(26), x -> x.timeLeft(), x -> x.tick(1), x -> x.tick(1), x -> x.tick(1),
        x -> x.pen(), x -> x.cut(), x -> x.feed(1) ? 1 : 0, x -> x.tick(2), x -> x.feed(255) ? 1 : 0, x -> x.tick(1),
        x -> x.feed(0) ? 1 : 0, x -> x.feed(4) ? 1 : 0, x -> x.feed(9) ? 1 : 0, x -> x.feed(4) ? 1 : 0, x -> x.tick(1),
        x -> x.tick(3), x -> x.feed(9) ? 1 : 0, x -> x.feed(0) ? 1 : 0, x -> x.tick(1), x -> x.at(),
    };

    public static void main(String[] args) {
        for (Refused refused : REFUSED) {
            theException(refused);
            theRunWithout(refused);
        }
        theRunWithAll();
        Check.end();
    }

    private static void theException(Refused refused) {
        Check.promise(refused.promise, "An IndexOutOfBoundsException is thrown if there is no such pen or cell, "
                + "an IllegalArgumentException if another argument is out of its range.");
        for (int calls = 0; calls <= RUN.length; calls++) {
            Check.yes(refused.text + " behind " + calls + " calls", thrownBy(refused, begun(calls)) == refused.exception);
        }
    }

    private static void theRunWithout(Refused refused) {
        for (int calls = 0; calls <= RUN.length; calls++) {
            int begun = calls;
            Check.promise(refused.promise, "A call that throws an exception changes nothing.");
            Check.changesNothing(refused.text + " behind " + calls + " calls", () -> begun(begun), refused.call::make);
        }
    }

    private static void theRunWithAll() {
        PlotKernel without = new PlotKernel();
        for (int i = 0; i < RUN.length; i++) {
            Check.promise(REFUSED[i % REFUSED.length].promise, "A call that throws an exception changes nothing.");
            int calls = i;
            PlotKernel x = new PlotKernel();
            for (int j = 0; j < calls; j++) {
                thrownBy(REFUSED[j % REFUSED.length], x);
                RUN[j].make(x);
            }
            thrownBy(REFUSED[i % REFUSED.length], x);
            Check.due("call " + (i + 1) + " of the run", RUN[i].make(x), RUN[i].make(without));
            Check.yes("all answers behind it", Check.answers(x).equals(Check.answers(begun(calls + 1))));
        }
    }

    private static PlotKernel begun(int calls) {
        PlotKernel x = new PlotKernel();
        for (int i = 0; i < calls; i++) {
            RUN[i].make(x);
        }
        return x;
    }

    private static Class<?> thrownBy(Refused refused, PlotKernel x) {
        try {
            refused.call.make(x);
        } catch (RuntimeException e) {
            return e.getClass();
        }
        return null;
    }
}
