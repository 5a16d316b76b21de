/** What the tests share: counting answers, and writing commands as bytes. */
final class Check {
    interface Call {
        long answer();
    }

    private static int right = 0;
    private static int wrong = 0;

    private Check() {
    }

    static void due(String what, long got, long want) {
        if (got == want) {
            right++;
        } else {
            wrong++;
            System.out.println(what + " answered " + got + ", due is " + want);
        }
    }

    static void yes(String what, boolean got) {
        due(what, got ? 1 : 0, 1);
    }

    static void no(String what, boolean got) {
        due(what, got ? 1 : 0, 0);
    }

    /** The call must throw just this exception, and leave every answer of x as it was. */
    static void mustThrow(String what, Class<?> exception, PlotKernel x, Call call) {
        String before = everything(x);
        Class<?> thrown = null;
        try {
            call.answer();
        } catch (RuntimeException e) {
            thrown = e.getClass();
        }
        yes(what + " throws " + exception.getSimpleName() + ", not " + thrown, thrown == exception);
        yes(what + " changes nothing", before.equals(everything(x)));
    }

    /** All that the calls without a change answer. */
    static String everything(PlotKernel x) {
        StringBuilder text = new StringBuilder();
        text.append(x.errors()).append(' ').append(x.queued()).append(' ').append(x.pending());
        text.append(' ').append(x.at()).append(' ').append(x.isDown()).append(' ').append(x.pen());
        for (int pen = 0; pen < 3; pen++) {
            text.append(' ').append(x.ink(pen));
        }
        text.append(' ').append(x.isWaiting()).append(' ').append(x.timeLeft());
        text.append(' ').append(x.stepsUp()).append(' ').append(x.stepsDown());
        text.append(' ').append(x.marks()).append(' ').append(x.marksInTheEnd()).append(' ');
        for (int cell = 0; cell < 10000; cell++) {
            if (x.isMarked(cell % 100, cell / 100)) {
                text.append(cell).append(',');
            }
        }
        return text.toString();
    }

    /** Feeds bytes that must all be taken; those below 0 are written as they are meant. */
    static void feedAll(PlotKernel x, int... values) {
        for (int value : values) {
            yes("feed(" + (value & 255) + ")", x.feed(value & 255));
        }
    }

    static PlotKernel fed(int... values) {
        PlotKernel x = new PlotKernel();
        feedAll(x, values);
        return x;
    }

    static void end() {
        System.out.println(right + " answers as due, " + wrong + " not");
        if (wrong > 0 || right == 0) {
            System.exit(1);
        }
    }
}
