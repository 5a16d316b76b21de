import java.util.ArrayDeque;
import java.util.ArrayList;
import java.util.Arrays;
import java.util.BitSet;
import java.util.List;

/**
 * A second plotter, made another way to be compared with PlotKernel: it keeps every cell that a command walks,
 * and learns what would be in the end by letting copies of itself run.
 */
final class Model {
    /** A queued command: the cells that it walks, the one ahead of it included; a PEN walks none but that. */
    private static final class Task {
        final int kind;
        final int pen;
        final List<Integer> cells = new ArrayList<>();

        Task(int kind, int pen, int fromX, int fromY, int dx, int dy) {
            this.kind = kind;
            this.pen = pen;
            cells.add(100 * fromY + fromX);
            double steps = Math.max(Math.abs(dx), Math.abs(dy));
            for (int k = 1; k <= steps; k++) {
                cells.add(100 * (fromY + towardZero(dy, k, (int) steps)) + fromX + towardZero(dx, k, (int) steps));
            }
        }

        private static int towardZero(int way, int k, int steps) {
            int size = Math.floorDiv(Math.abs(way) * k, steps);
            return way < 0 ? -size : size;
        }
    }

    private final List<Task> all = new ArrayList<>();
    private ArrayDeque<Task> tasks = new ArrayDeque<>();
    private final List<Integer> bytes = new ArrayList<>();
    private int[] latest;
    private int endX;
    private int endY;
    int errors;
    int cell;
    int done;
    int turning;
    int changing;
    boolean down;
    int pen;
    int[] ink = {500, 500, 500};
    boolean endlessInk;
    int stepsUp;
    int stepsDown;
    BitSet marked = new BitSet();

    private Model copy() {
        Model m = new Model();
        m.all.addAll(all);
        m.tasks = tasks.clone();
        m.cell = cell;
        m.done = done;
        m.turning = turning;
        m.changing = changing;
        m.down = down;
        m.pen = pen;
        m.ink = Arrays.copyOf(ink, 3);
        m.marked = (BitSet) marked.clone();
        return m;
    }

    boolean feed(int value) {
        if (tasks.size() > 7) {
            return false;
        }
        bytes.add(value);
        int kind = bytes.get(0);
        int due = kind == 1 || kind == 2 ? 3 : kind == 3 || kind == 4 ? 2 : 1;
        if (bytes.size() == due) {
            whole(kind);
            bytes.clear();
        }
        return true;
    }

    private void whole(int kind) {
        if (kind == 1 || kind == 2) {
            int[] motion = {kind, (byte) (int) bytes.get(1), (byte) (int) bytes.get(2)};
            if (attempt(motion)) {
                latest = motion;
            }
        } else if (kind == 3 && bytes.get(1) < 3) {
            append(new Task(3, bytes.get(1), endX, endY, 0, 0));
        } else if (kind == 4 && bytes.get(1) > 0 && bytes.get(1) < 10 && latest != null) {
            for (int left = bytes.get(1); left > 0; left--) {
                attempt(latest);
            }
        } else if (kind != 0) {
            errors++;
        }
    }

    private boolean attempt(int[] motion) {
        int x = endX + motion[1];
        int y = endY + motion[2];
        boolean isRight = (motion[1] != 0 || motion[2] != 0) && x >= 0 && x <= 99 && y >= 0 && y <= 99;
        if (isRight) {
            append(new Task(motion[0], -1, endX, endY, motion[1], motion[2]));
            endX = x;
            endY = y;
        } else {
            errors++;
        }
        return isRight;
    }

    private void append(Task task) {
        tasks.add(task);
        all.add(task);
    }

    int queued() {
        return tasks.size();
    }

    int pending() {
        return bytes.size();
    }

    int tick(int ticks) {
        int steps = 0;
        for (int i = 0; i < ticks; i++) {
            steps += tick();
        }
        return steps;
    }

    private int tick() {
        Task task = tasks.peek();
        if (task == null) {
            return 0;
        }
        switch (task.kind) {
            case 3:
                return down ? turn() : change(task);
            case 1:
                return down ? turn() : step(task);
            default:
                return !down ? turn() : ink[pen] == 0 && !endlessInk ? 0 : step(task);
        }
    }

    private int turn() {
        turning = (turning + 1) % 2;
        if (turning == 0) {
            down = !down;
            if (down) {
                marked.set(cell);
            }
        }
        return 0;
    }

    private int change(Task task) {
        changing = (changing + 1) % 3;
        if (changing == 0) {
            pen = task.pen;
            tasks.remove();
        }
        return 0;
    }

    private int step(Task task) {
        done++;
        cell = task.cells.get(done);
        if (task.kind == 2) {
            stepsDown++;
            ink[pen]--;
            marked.set(cell);
        } else {
            stepsUp++;
        }
        if (done == task.cells.size() - 1) {
            tasks.remove();
            done = 0;
        }
        return 1;
    }

    int cut() {
        int again = done - 10 * (done / 10);
        done -= again;
        if (!tasks.isEmpty()) {
            cell = tasks.peek().cells.get(done);
        }
        turning = 0;
        changing = 0;
        down = false;
        bytes.clear();
        return again;
    }

    int refill(int number) {
        int had = ink[number];
        ink[number] = 500;
        return had;
    }

    int pour(int number, int amount) {
        ink[number] -= amount > ink[number] ? ink[number] : amount;
        return ink[number];
    }

    boolean isWaiting() {
        // The one tick that does nothing although a command is queued.
        Model m = copy();
        m.tick();
        return !tasks.isEmpty() && m.tasks.size() == tasks.size() && m.done == done && m.turning == turning
                && m.changing == changing && m.down == down;
    }

    int timeLeft() {
        Model m = copy();
        m.endlessInk = true;
        int ticks = 0;
        while (!m.tasks.isEmpty()) {
            m.tick();
            ticks++;
        }
        return ticks;
    }

    int marksInTheEnd() {
        Model m = new Model();
        m.endlessInk = true;
        m.tasks.addAll(all);
        while (!m.tasks.isEmpty()) {
            m.tick();
        }
        return m.marked.cardinality();
    }
}
