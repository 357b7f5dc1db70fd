import java.util.ArrayDeque;
import java.util.ArrayList;
import java.util.Arrays;
import java.util.Deque;
import java.util.List;
import java.util.function.Consumer;

/**
 * The document once more, written for reading and not for LANGUAGE.md: what
 * FiberDesk answers is compared with what this answers. A CAUSE is a list of
 * {what 0, what 1}; a FRAME is what it does with an EXIT that comes.
 */
final class Model {
    private record Exit(int value, List<int[]> cause) {
    }

    private record Closer(int effect, int input) {
    }

    private static final class Frame {
        int kind;
        boolean maskedBefore;
        boolean closing = false;
        final Deque<Closer> closers = new ArrayDeque<>();
        Exit kept;
        Consumer<Exit> comes;
    }

    private static final class Fiber {
        int number;
        int parent;
        Closer todo;
        Exit exit;
        boolean ended = false;
        boolean masked = false;
        final Deque<Frame> frames = new ArrayDeque<>();
        int interrupt = 0;
        int by;
        int steps = 0;
        int waits = 0;
        int waitsOn;
        int until;
    }

    private static final int PARTS_OF_A_CAUSE = 9;

    private final List<int[]> effects = new ArrayList<>();
    private final List<Fiber> fibers = new ArrayList<>();
    private final List<Fiber> queue = new ArrayList<>();
    private final List<Integer> output = new ArrayList<>();
    private final int[] cells = new int[4];
    private final Integer[] promises = new Integer[4];
    private final int[] permits = new int[4];
    private final List<List<Fiber>> awaiting = new ArrayList<>();
    private final List<List<Fiber>> taking = new ArrayList<>();
    private int clock = 0;
    private int steps = 0;
    private int turns = 0;
    private Fiber atWork = null;
    private int stepsOfTurn = 0;
    private boolean yielded = false;

    // ---- the calls ----

    int effect(int kind, int a, int b, int c) {
        if (kind < 0 || kind > 25) {
            return -1;
        }
        int[] abc = {a, b, c};
        for (int i = 0; i < parts(kind); i++) {
            if (abc[i] < 0 || abc[i] >= effects.size()) {
                return -1;
            }
        }
        if (kind >= 19 && kind <= 24 && (a < 0 || a > 3)) {
            return -1;
        }
        if (effects.size() == 40) {
            return -2;
        }
        effects.add(new int[] {kind, a, b, c});
        return effects.size() - 1;
    }

    private static int parts(int kind) {
        return switch (kind) {
            case 5, 7 -> 3;
            case 4, 6, 15, 25 -> 2;
            case 8, 9, 10, 11, 12 -> 1;
            default -> 0;
        };
    }

    boolean start(int e, int v) {
        if (e < 0 || e >= effects.size()) {
            return false;
        }
        fibers.clear();
        queue.clear();
        output.clear();
        awaiting.clear();
        taking.clear();
        Arrays.fill(cells, 0);
        Arrays.fill(promises, null);
        Arrays.fill(permits, 1);
        for (int n = 0; n < 4; n++) {
            awaiting.add(new ArrayList<>());
            taking.add(new ArrayList<>());
        }
        clock = 0;
        steps = 0;
        turns = 0;
        atWork = null;
        newFiber(e, v, -1);
        return true;
    }

    int run(int n) {
        if (n < 1 || n > 20 || fibers.isEmpty()) {
            return -1;
        }
        for (int i = 0; i < n; i++) {
            if (atWork == null && !beginTurn()) {
                break;
            }
            step(atWork);
        }
        return stands();
    }

    boolean interrupt(int f) {
        if (f < 0 || f >= fibers.size() || fibers.get(f).ended) {
            return false;
        }
        interrupt(fibers.get(f), -1);
        return true;
    }

    boolean keep(int n, int v) {
        return !fibers.isEmpty() && n >= 0 && n <= 3 && keepPromise(n, v);
    }

    int fiber(int f, int what) {
        if (f < 0 || f >= fibers.size()) {
            return -1;
        }
        Fiber it = fibers.get(f);
        boolean value = it.ended && it.exit.cause == null;
        return switch (what) {
            case 0 -> value ? 2 : it.ended ? 3 : it.waits > 0 ? 1 : 0;
            case 1 -> !it.ended && it.masked ? 1 : 0;
            case 2 -> it.ended ? 0 : it.frames.size();
            case 3 -> it.interrupt;
            case 4 -> it.parent;
            case 5 -> value ? it.exit.value : 0;
            case 6 -> it.steps;
            case 7 -> it.waits;
            default -> -1;
        };
    }

    int cause(int f, int k, int what) {
        if (fiber(f, 0) != 3 || what < 0 || what > 1) {
            return -1;
        }
        List<int[]> parts = fibers.get(f).exit.cause;
        return k < 0 || k >= parts.size() ? -1 : parts.get(k)[what];
    }

    int queued(int k) {
        return k < 0 || k >= queue.size() ? -1 : queue.get(k).number;
    }

    int printed(int k) {
        return k < 0 || k >= Math.min(24, output.size()) ? 0 : output.get(k);
    }

    int cell(int n, int what) {
        if (fibers.isEmpty() || n < 0 || n > 3) {
            return -1;
        }
        return switch (what) {
            case 0 -> cells[n];
            case 1 -> promises[n] == null ? 0 : 1;
            case 2 -> promises[n] == null ? 0 : promises[n];
            case 3 -> permits[n];
            case 4 -> awaiting.get(n).size();
            case 5 -> taking.get(n).size();
            default -> -1;
        };
    }

    int count(int what) {
        return switch (what) {
            case 0 -> effects.size();
            case 1 -> fibers.size();
            case 2 -> clock;
            case 3 -> steps;
            case 4 -> output.size();
            case 5 -> turns;
            case 6 -> atWork == null ? -1 : atWork.number;
            case 7 -> fibers.isEmpty() ? -1 : stands();
            default -> -1;
        };
    }

    // ---- the worker ----

    private int stands() {
        if (fibers.stream().allMatch(f -> f.ended)) {
            return 1;
        }
        return fibers.stream().anyMatch(f -> !f.ended && (f.waits == 0 || f.waits == 4)) ? 0 : 2;
    }

    private boolean beginTurn() {
        if (queue.isEmpty()) {
            List<Fiber> sleepers = fibers.stream().filter(f -> f.waits == 4).toList();
            if (sleepers.isEmpty()) {
                return false;
            }
            clock = sleepers.stream().mapToInt(f -> f.until).min().getAsInt();
            sleepers.stream().filter(f -> f.until == clock).forEach(f -> goOn(f, f.exit));
        }
        atWork = queue.remove(0);
        stepsOfTurn = 0;
        turns++;
        return true;
    }

    private void step(Fiber it) {
        steps++;
        it.steps++;
        stepsOfTurn++;
        yielded = false;
        if (it.interrupt == 1 && !it.masked) {
            it.interrupt = 2;
            returns(it, cause(3, it.by));
        } else if (it.todo != null) {
            Closer todo = it.todo;
            it.todo = null;
            begin(it, effects.get(todo.effect), todo.input);
        } else if (!it.frames.isEmpty()) {
            it.frames.peek().comes.accept(it.exit);
        } else {
            end(it);
        }
        boolean ready = !it.ended && it.waits == 0;
        if (!ready || yielded || stepsOfTurn == 5) {
            atWork = null;
            if (ready) {
                queue.add(it);
            }
        }
    }

    private static Exit value(int v) {
        return new Exit(v, null);
    }

    private static Exit cause(int kind, int n) {
        return new Exit(0, List.of(new int[] {kind, n}));
    }

    private static Exit joined(int kind, Exit first, Exit second) {
        List<int[]> parts = new ArrayList<>();
        parts.add(new int[] {kind, 0});
        parts.addAll(first.cause);
        parts.addAll(second.cause);
        return parts.size() > PARTS_OF_A_CAUSE ? first : new Exit(0, parts);
    }

    private static void returns(Fiber it, Exit exit) {
        it.todo = null;
        it.exit = exit;
    }

    private static void does(Fiber it, int effect, int input) {
        it.todo = new Closer(effect, input);
    }

    private static void waits(Fiber it, int what, int on) {
        it.waits = what;
        it.waitsOn = on;
    }

    private void goOn(Fiber it, Exit exit) {
        it.waits = 0;
        returns(it, exit);
        queue.add(it);
    }

    private int newFiber(int effect, int input, int parent) {
        Fiber made = new Fiber();
        made.number = fibers.size();
        made.parent = parent;
        does(made, effect, input);
        fibers.add(made);
        queue.add(made);
        return made.number;
    }

    private void interrupt(Fiber it, int by) {
        if (it.ended || it.interrupt != 0) {
            return;
        }
        it.interrupt = 1;
        it.by = by;
        if (it.waits != 0 && !it.masked) {
            awaiting.forEach(line -> line.remove(it));
            taking.forEach(line -> line.remove(it));
            goOn(it, it.exit);
        }
    }

    private void end(Fiber it) {
        it.ended = true;
        for (Fiber other : fibers) {
            if (other.waits == 1 && other.waitsOn == it.number) {
                goOn(other, it.exit);
            } else if (other.waits == 2 && other.waitsOn == it.number) {
                goOn(other, value(0));
            } else if (other.waits == 3 && (other.waitsOn == it.number || other.waitsOn + 1 == it.number)) {
                endInRace(other, it);
            }
        }
        fibers.stream().filter(f -> f.parent == it.number).forEach(f -> interrupt(f, it.number));
    }

    private void endInRace(Fiber racing, Fiber ended) {
        Fiber x = fibers.get(racing.waitsOn);
        Fiber y = fibers.get(racing.waitsOn + 1);
        Fiber other = ended == x ? y : x;
        if (!other.ended) {
            if (ended.exit.cause == null) {
                interrupt(other, racing.number);
            }
        } else if (other.exit.cause == null) {
            goOn(racing, other.exit);
        } else if (ended.exit.cause == null) {
            goOn(racing, ended.exit);
        } else {
            goOn(racing, joined(5, x.exit, y.exit));
        }
    }

    private boolean keepPromise(int n, int v) {
        if (promises[n] != null) {
            return false;
        }
        promises[n] = v;
        awaiting.get(n).forEach(f -> goOn(f, value(v)));
        awaiting.get(n).clear();
        return true;
    }

    // ---- the EFFECTS ----

    private void begin(Fiber it, int[] e, int v) {
        int n = e[1];
        switch (e[0]) {
            case 0 -> returns(it, value(n));
            case 1 -> returns(it, value(v + n));
            case 2 -> returns(it, cause(1, n));
            case 3 -> returns(it, cause(2, n));
            case 11 -> close(it, n, v);
            case 12 -> returns(it, fibers.size() == 10 ? cause(2, -1) : value(newFiber(n, v, it.number)));
            case 13, 14 -> joinOrHalt(it, e[0], v);
            case 15 -> race(it, e, v);
            case 16 -> sleep(it, n, v);
            case 17 -> {
                returns(it, value(v));
                yielded = true;
            }
            case 18 -> {
                returns(it, value(v));
                output.add(v);
            }
            case 25 -> does(it, v != 0 ? e[1] : e[2], v);
            default -> {
                if (e[0] >= 19) {
                    atPlace(it, e[0], n, v);
                } else {
                    framed(it, e, v);
                }
            }
        }
    }

    private void close(Fiber it, int x, int v) {
        for (Frame frame : it.frames) {
            if (frame.kind == 10 && !frame.closing) {
                boolean full = frame.closers.size() == 4;
                if (!full) {
                    frame.closers.push(new Closer(x, v));
                }
                returns(it, full ? cause(2, -3) : value(v));
                return;
            }
        }
        returns(it, cause(2, -3));
    }

    private void joinOrHalt(Fiber it, int kind, int v) {
        if (v < 0 || v >= fibers.size()) {
            returns(it, cause(2, -2));
            return;
        }
        Fiber other = fibers.get(v);
        boolean join = kind == 13;
        if (!join) {
            interrupt(other, it.number);
        }
        if (other.ended || !join && other == it) {
            returns(it, join ? other.exit : value(0));
        } else {
            waits(it, join ? 1 : 2, v);
        }
    }

    private void race(Fiber it, int[] e, int v) {
        if (fibers.size() > 8) {
            returns(it, cause(2, -1));
            return;
        }
        waits(it, 3, newFiber(e[1], v, it.number));
        newFiber(e[2], v, it.number);
    }

    private void sleep(Fiber it, int n, int v) {
        returns(it, value(v));
        if (n >= 1) {
            waits(it, 4, -1);
            it.until = clock + (n > 1000 ? 1000 : n);
        }
    }

    private void atPlace(Fiber it, int kind, int n, int v) {
        returns(it, value(v));
        switch (kind) {
            case 19 -> returns(it, value(cells[n]));
            case 20 -> cells[n] = v;
            case 21 -> {
                if (promises[n] != null) {
                    returns(it, value(promises[n]));
                } else {
                    waits(it, 5, n);
                    awaiting.get(n).add(it);
                }
            }
            case 22 -> returns(it, value(keepPromise(n, v) ? 1 : 0));
            case 23 -> {
                if (permits[n] > 0) {
                    permits[n]--;
                } else {
                    waits(it, 6, n);
                    taking.get(n).add(it);
                }
            }
            default -> {
                if (taking.get(n).isEmpty()) {
                    permits[n]++;
                } else {
                    Fiber first = taking.get(n).remove(0);
                    goOn(first, first.exit);
                }
            }
        }
    }

    private void framed(Fiber it, int[] e, int v) {
        if (it.frames.size() == 16) {
            returns(it, cause(2, -4));
            return;
        }
        Frame frame = new Frame();
        frame.kind = e[0];
        frame.maskedBefore = it.masked;
        switch (e[0]) {
            case 4 -> frame.comes = exit -> follow(it, exit, e[2], -1);
            case 5 -> frame.comes = exit -> follow(it, exit, e[2], e[3]);
            case 6 -> {
                frame.closers.push(new Closer(e[2], v));
                frame.comes = exit -> closes(it, frame, exit);
            }
            case 7 -> {
                it.masked = true;
                frame.comes = exit -> acquired(it, frame, exit, e);
            }
            case 8, 9 -> {
                it.masked = e[0] == 8 || restored(it);
                frame.comes = exit -> leaves(it, frame, exit);
            }
            default -> frame.comes = exit -> closes(it, frame, exit);
        }
        it.frames.push(frame);
        does(it, e[1], v);
    }

    private static boolean restored(Fiber it) {
        return it.frames.stream().filter(f -> f.kind == 8).findFirst().map(f -> f.maskedBefore).orElse(it.masked);
    }

    private static void leaves(Fiber it, Frame frame, Exit exit) {
        it.masked = frame.maskedBefore;
        it.frames.pop();
        returns(it, exit);
    }

    private static void follow(Fiber it, Exit exit, int y, int z) {
        it.frames.pop();
        if (exit.cause == null) {
            does(it, y, exit.value);
        } else if (z >= 0 && exit.cause.size() == 1 && exit.cause.get(0)[0] == 1) {
            does(it, z, exit.cause.get(0)[1]);
        }
    }

    private static void acquired(Fiber it, Frame frame, Exit exit, int[] e) {
        if (exit.cause != null) {
            leaves(it, frame, exit);
            return;
        }
        it.masked = frame.maskedBefore;
        frame.closers.push(new Closer(e[3], exit.value));
        frame.comes = next -> closes(it, frame, next);
        does(it, e[2], exit.value);
    }

    private static void closes(Fiber it, Frame frame, Exit exit) {
        if (!frame.closing) {
            frame.closing = true;
            frame.kept = exit;
        } else if (exit.cause != null) {
            frame.kept = frame.kept.cause == null ? exit : joined(4, frame.kept, exit);
        }
        if (frame.closers.isEmpty()) {
            leaves(it, frame, frame.kept);
        } else {
            it.masked = true;
            it.todo = frame.closers.pop();
        }
    }
}
