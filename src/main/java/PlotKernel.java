import java.util.ArrayList;

/** The firmware of a pen plotter. The numbered promises of ../shared/DOC.md say what it does. */
public final class PlotKernel {
    public static final int MOVE = 1, DRAW = 2, PEN = 3, REPEAT = 4;

    private static final int SIDE = 100;
    private static final int PENS = 3;
    private static final int FULL_PEN = 500;
    private static final int GREATEST_BYTE = 255;
    private static final int GREATEST_POSITIVE_BYTE = 127;
    private static final int FULL_QUEUE = 8;
    private static final int MOST_REPEATS = 9;
    private static final int MOST_TICKS = 1000;
    private static final int TURN_TICKS = 2;
    private static final int CHANGE_TICKS = 3;
    private static final int JOURNAL_STEPS = 10;

    private final ArrayList<Command> queue = new ArrayList<Command>();
    private final Paper paper = new Paper();
    // What commands mark does not depend on cuts and ink, so it is drawn here as soon as they are queued.
    private final Paper plan = new Paper();
    private final int[] inkLeft = new int[PENS];

    private int opcode;
    private int firstByte;
    private int pendingBytes;
    private int errorCount;
    private Command latest;
    private int endX;
    private int endY;

    // Where the carriage was ahead of the first command, or, without commands, where it is.
    private int startX;
    private int startY;
    private int stepsDone;
    // Ticks of lifting, lowering or changing that were begun: the first command does one of them at a time.
    private int begunTicks;
    private boolean penDown;
    private int penHeld;
    private int upSteps;
    private int downSteps;

    public PlotKernel() {
        for (int i = 0; i < inkLeft.length; i++) {
            inkLeft[i] = FULL_PEN;
        }
    }

    // ---- bytes

    public boolean feed(int value) throws IllegalArgumentException {
        if (value < 0 || value > GREATEST_BYTE) {
            throw new IllegalArgumentException("a byte is 0 to 255");
        }
        if (queue.size() >= FULL_QUEUE) {
            return false;
        }
        takeByte(value);
        return true;
    }

    public int errors() {
        return errorCount;
    }

    public int queued() {
        return queue.size();
    }

    public int pending() {
        return pendingBytes;
    }

    private void takeByte(int value) {
        if (pendingBytes == 0) {
            beginCommand(value);
        } else if (pendingBytes == 1 && (opcode == MOVE || opcode == DRAW)) {
            firstByte = value;
            pendingBytes = 2;
        } else {
            pendingBytes = 0;
            endCommand(value);
        }
    }

    private void beginCommand(int value) {
        if (value >= MOVE && value <= REPEAT) {
            opcode = value;
            pendingBytes = 1;
        } else if (value != 0) {
            errorCount++;
        }
    }

    private void endCommand(int lastByte) {
        if (opcode == REPEAT) {
            repeatLatest(lastByte);
        } else if (opcode == PEN) {
            queueIfRight(new Command(PEN, 0, 0, lastByte));
        } else {
            queueMotion(new Command(opcode, signed(firstByte), signed(lastByte), 0));
        }
    }

    private static int signed(int value) {
        return value > GREATEST_POSITIVE_BYTE ? value - GREATEST_BYTE - 1 : value;
    }

    private void queueMotion(Command command) {
        if (queueIfRight(command)) {
            latest = command;
        }
    }

    private void repeatLatest(int times) {
        if (times < 1 || times > MOST_REPEATS || latest == null) {
            errorCount++;
            return;
        }
        for (int i = 0; i < times; i++) {
            queueIfRight(latest);
        }
    }

    private boolean queueIfRight(Command command) {
        if (!isRight(command)) {
            errorCount++;
            return false;
        }
        if (command.draws()) {
            planLine(command);
        }
        queue.add(command);
        endX += command.dx;
        endY += command.dy;
        return true;
    }

    private boolean isRight(Command command) {
        if (command.kind == PEN) {
            return hasPen(command.pen);
        }
        return command.steps() > 0 && hasCell(endX + command.dx, endY + command.dy);
    }

    private void planLine(Command command) {
        int steps = command.steps();
        // From step 0 on, since the pen is lowered there, or was down there already.
        for (int step = 0; step <= steps; step++) {
            plan.putMark(endX + command.wayX(step), endY + command.wayY(step));
        }
    }

    // ---- ticks and power

    public int tick(int ticks) throws IllegalArgumentException {
        if (ticks < 1 || ticks > MOST_TICKS) {
            throw new IllegalArgumentException("ticks are 1 to 1000");
        }
        int stepsBefore = upSteps + downSteps;
        // A tick in which nothing is done changes nothing, so those behind it do nothing either.
        boolean goesOn = true;
        for (int i = 0; i < ticks && goesOn; i++) {
            goesOn = doTick();
        }
        return upSteps + downSteps - stepsBefore;
    }

    public int cut() {
        int again = stepsDone % JOURNAL_STEPS;
        stepsDone -= again;
        begunTicks = 0;
        penDown = false;
        pendingBytes = 0;
        return again;
    }

    public int refill(int pen) throws IndexOutOfBoundsException {
        if (!hasPen(pen)) {
            throw new IndexOutOfBoundsException("a pen is 0 to 2");
        }
        int before = inkOf(pen);
        setInk(pen, FULL_PEN);
        return before;
    }

    public int pour(int pen, int amount) throws IndexOutOfBoundsException, IllegalArgumentException {
        if (!hasPen(pen)) {
            throw new IndexOutOfBoundsException("a pen is 0 to 2");
        }
        if (amount < 1 || amount > FULL_PEN) {
            throw new IllegalArgumentException("an amount is 1 to 500");
        }
        int left = Math.max(0, inkOf(pen) - amount);
        setInk(pen, left);
        return left;
    }

    /** Does what a tick does; answers whether that is anything. */
    private boolean doTick() {
        Command command = firstCommand();
        if (command == null || lacksInk(command)) {
            return false;
        }
        if (penDown != command.draws()) {
            turnPen();
        } else if (command.kind == PEN) {
            changePen(command);
        } else {
            doStep(command);
        }
        return true;
    }

    private void turnPen() {
        begunTicks++;
        if (begunTicks < TURN_TICKS) {
            return;
        }
        begunTicks = 0;
        penDown = !penDown;
        if (penDown) {
            markHere();
        }
    }

    private void changePen(Command command) {
        begunTicks++;
        if (begunTicks < CHANGE_TICKS) {
            return;
        }
        penHeld = command.pen;
        endFirstCommand(command);
    }

    private void doStep(Command command) {
        stepsDone++;
        if (command.draws()) {
            downSteps++;
            setInk(penHeld, inkOf(penHeld) - 1);
            markHere();
        } else {
            upSteps++;
        }
        if (stepsDone >= command.steps()) {
            endFirstCommand(command);
        }
    }

    private void endFirstCommand(Command command) {
        startX += command.dx;
        startY += command.dy;
        stepsDone = 0;
        begunTicks = 0;
        if (!queue.isEmpty()) {
            queue.remove(0);
        }
    }

    private void markHere() {
        paper.putMark(carriageX(), carriageY());
    }

    // ---- the machine

    public int at() {
        return SIDE * carriageY() + carriageX();
    }

    public boolean isDown() {
        return penDown;
    }

    public int pen() {
        return penHeld;
    }

    public int ink(int pen) throws IndexOutOfBoundsException {
        if (!hasPen(pen)) {
            throw new IndexOutOfBoundsException("a pen is 0 to 2");
        }
        return inkOf(pen);
    }

    public boolean isWaiting() {
        Command command = firstCommand();
        return command != null && lacksInk(command);
    }

    public int timeLeft() {
        int ticks = 0;
        boolean downThen = penDown;
        for (int i = 0; i < queue.size(); i++) {
            Command command = queue.get(i);
            if (downThen != command.draws()) {
                ticks += TURN_TICKS;
            }
            ticks += command.kind == PEN ? CHANGE_TICKS : command.steps();
            downThen = command.draws();
        }
        // What the first command has done of its steps, or of its turning or changing, is not to be done again.
        return ticks - stepsDone - begunTicks;
    }

    public int stepsUp() {
        return upSteps;
    }

    public int stepsDown() {
        return downSteps;
    }

    private Command firstCommand() {
        return queue.isEmpty() ? null : queue.get(0);
    }

    private int carriageX() {
        Command command = firstCommand();
        return command == null ? startX : startX + command.wayX(stepsDone);
    }

    private int carriageY() {
        Command command = firstCommand();
        return command == null ? startY : startY + command.wayY(stepsDone);
    }

    private boolean lacksInk(Command command) {
        return command.draws() && penDown && inkOf(penHeld) == 0;
    }

    private static boolean hasPen(int number) {
        return number >= 0 && number < PENS;
    }

    private int inkOf(int number) {
        return number >= 0 && number < inkLeft.length ? inkLeft[number] : 0;
    }

    private void setInk(int number, int amount) {
        if (number >= 0 && number < inkLeft.length) {
            inkLeft[number] = amount;
        }
    }

    // ---- marks

    public boolean isMarked(int x, int y) throws IndexOutOfBoundsException {
        if (!hasCell(x, y)) {
            throw new IndexOutOfBoundsException("a cell has x and y from 0 to 99");
        }
        return paper.hasMark(x, y);
    }

    public int marks() {
        return paper.markCount;
    }

    public int marksInTheEnd() {
        return plan.markCount;
    }

    private static boolean hasCell(int x, int y) {
        return x >= 0 && x < SIDE && y >= 0 && y < SIDE;
    }

    /** A command that can be queued. A REPEAT queues the same object again, so it never changes. */
    private static final class Command {
        private final int kind;
        private final int dx;
        private final int dy;
        private final int pen;

        private Command(int kind, int dx, int dy, int pen) {
            this.kind = kind;
            this.dx = dx;
            this.dy = dy;
            this.pen = pen;
        }

        private boolean draws() {
            return kind == DRAW;
        }

        private int steps() {
            return Math.max(Math.abs(dx), Math.abs(dy));
        }

        private int wayX(int step) {
            return way(dx, step);
        }

        private int wayY(int step) {
            return way(dy, step);
        }

        private int way(int whole, int step) {
            int steps = steps();
            return steps == 0 ? 0 : whole * step / steps;
        }
    }

    /** Cells with marks. A bit a cell, since a run may make many objects. */
    private static final class Paper {
        private static final int WORD_BITS = 64;
        private static final int WORDS = SIDE * SIDE / WORD_BITS + 1;

        private final long[] words = new long[WORDS];
        private int markCount;

        private boolean hasMark(int x, int y) {
            int word = wordOf(x, y);
            return word >= 0 && word < words.length && (words[word] & bitOf(x, y)) != 0;
        }

        private void putMark(int x, int y) {
            int word = wordOf(x, y);
            if (word < 0 || word >= words.length || hasMark(x, y)) {
                return;
            }
            words[word] |= bitOf(x, y);
            markCount++;
        }

        private static int wordOf(int x, int y) {
            return hasCell(x, y) ? (SIDE * y + x) / WORD_BITS : -1;
        }

        private static long bitOf(int x, int y) {
            return 1L << (SIDE * y + x) % WORD_BITS;
        }
    }
}
