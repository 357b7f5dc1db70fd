import java.util.Random;

/**
 * Random runs of calls, always the same ones: no call throws, what must hold in
 * every state does, an object started anew answers as a new one does, and steps
 * done one by one come to the same as steps done together.
 */
public final class RandomRunsTest {
    private static final int[] PARTS = {
        0, 0, 0, 0, 2, 3, 2, 3, 1, 1, 1, 1, 1, 0, 0, 2, 0, 0, 0, 0, 0, 0, 0, 0, 0, 2
    };
    private static final int[] LEAVES = {0, 0, 1, 2, 3, 13, 14, 16, 16, 17, 18, 19, 20, 21, 22, 23, 23, 24};
    private static final int[] NODES = {4, 4, 4, 4, 5, 6, 6, 7, 7, 8, 9, 10, 10, 11, 12, 12, 12, 15, 15, 25};

    public static void main(String[] args) {
        for (int seed = 0; seed < 1500; seed++) {
            Random random = new Random(seed);
            int[][] effects = effects(random);
            FiberDesk used = desk(effects);
            used.start(random.nextInt(effects.length), random.nextInt(4));
            play(random, used, null);
            FiberDesk other = desk(effects);
            int v = random.nextInt(4);
            used.start(effects.length - 1, v);
            other.start(effects.length - 1, v);
            play(random, used, other);
            wildCalls(random, used);
        }
        Checks.finish();
    }

    /** Rows for effect, most of them built from the latest ones before. */
    private static int[][] effects(Random random) {
        int[][] rows = new int[20 + random.nextInt(21)][];
        for (int i = 0; i < rows.length; i++) {
            boolean leaf = i < 6 || i < rows.length - 4 && random.nextInt(3) == 0;
            int kind = leaf ? LEAVES[random.nextInt(LEAVES.length)] : NODES[random.nextInt(NODES.length)];
            int[] row = {kind, random.nextInt(4), random.nextInt(4), random.nextInt(4)};
            for (int k = 0; k < PARTS[kind]; k++) {
                row[k + 1] = Math.max(0, i - 1 - random.nextInt(random.nextBoolean() ? 4 : 12));
            }
            rows[i] = row;
        }
        return rows;
    }

    private static FiberDesk desk(int[][] effects) {
        FiberDesk desk = new FiberDesk();
        for (int i = 0; i < effects.length; i++) {
            int[] row = effects[i];
            Checks.due("effect", desk.effect(row[0], row[1], row[2], row[3]), i);
        }
        return desk;
    }

    /** Plays on one desk or on two alike; on the second the steps are done one by one. */
    private static void play(Random random, FiberDesk desk, FiberDesk other) {
        int calls = 10 + random.nextInt(50);
        for (int i = 0; i < calls; i++) {
            int choice = random.nextInt(12);
            int a = random.nextInt(5);
            int b = 1 + random.nextInt(20);
            if (choice == 0) {
                boolean done = desk.interrupt(a);
                Checks.due("interrupt", other == null ? done : other.interrupt(a), done);
            } else if (choice == 1) {
                boolean done = desk.keep(a, b);
                Checks.due("keep", other == null ? done : other.keep(a, b), done);
            } else {
                int stands = desk.run(b);
                for (int k = 0; other != null && k < b; k++) {
                    other.run(1);
                }
                Checks.due("count(7)", desk.count(7), stands);
            }
            mustHold(desk);
            if (other != null) {
                Checks.due("the state", state(desk), state(other));
            }
        }
    }

    private static void mustHold(FiberDesk desk) {
        int steps = 0;
        int awaiting = 0;
        int taking = 0;
        int ready = 0;
        for (int f = 0; f < desk.count(1); f++) {
            steps += desk.fiber(f, 6);
            awaiting += desk.fiber(f, 7) == 5 ? 1 : 0;
            taking += desk.fiber(f, 7) == 6 ? 1 : 0;
            ready += desk.fiber(f, 0) == 0 ? 1 : 0;
            Checks.due("waiting or not", desk.fiber(f, 7) != 0, desk.fiber(f, 0) == 1);
            Checks.due("at most 16 frames", desk.fiber(f, 2) <= 16, true);
            if (desk.fiber(f, 0) >= 2) {
                endedMustHold(desk, f);
            }
        }
        Checks.due("steps of all fibers", steps, desk.count(3));
        queueMustHold(desk, ready);
        for (int n = 0; n < 4; n++) {
            awaiting -= desk.cell(n, 4);
            taking -= desk.cell(n, 5);
            Checks.due("none waits at a gate with permits", desk.cell(n, 3) > 0 && desk.cell(n, 5) > 0, false);
            Checks.due("none waits for what is kept", desk.cell(n, 1) == 1 && desk.cell(n, 4) > 0, false);
        }
        Checks.due("lines of promises", awaiting, 0);
        Checks.due("lines of gates", taking, 0);
    }

    private static void queueMustHold(FiberDesk desk, int ready) {
        int standing = desk.count(6) >= 0 ? 1 : 0;
        boolean[] seen = new boolean[10];
        for (int k = 0; desk.queued(k) >= 0; k++) {
            int f = desk.queued(k);
            Checks.due("in the queue once, ready, not at work", seen[f] || desk.fiber(f, 0) != 0 || f == desk.count(6), false);
            seen[f] = true;
            standing++;
        }
        Checks.due("the ready are in the queue or at work", standing, ready);
    }

    private static void endedMustHold(FiberDesk desk, int f) {
        Checks.due("masked, ended", desk.fiber(f, 1), 0);
        Checks.due("frames, ended", desk.fiber(f, 2), 0);
        Checks.due("pending, ended", desk.fiber(f, 3) == 1, false);
        for (int g = 0; g < desk.count(1); g++) {
            boolean orphan = desk.fiber(g, 4) == f && desk.fiber(g, 0) < 2;
            Checks.due("a child outlives its parent uninterrupted", orphan && desk.fiber(g, 3) == 0, false);
        }
        if (desk.fiber(f, 0) == 3) {
            int open = 1;
            int k = 0;
            while (k < 10 && open > 0) {
                open += desk.cause(f, k, 0) >= 4 ? 1 : -1;
                k++;
            }
            Checks.due("a cause of at most nine", k <= 9 && open == 0, true);
            Checks.due("and no more", desk.cause(f, k, 0), FiberDesk.REFUSED);
        } else {
            Checks.due("interrupted, yet a value", desk.fiber(f, 3), 0);
        }
    }

    private static String state(FiberDesk desk) {
        StringBuilder text = new StringBuilder();
        for (int i = 0; i < 11; i++) {
            for (int what = 0; what < 8; what++) {
                text.append(desk.fiber(i, what)).append(' ');
                text.append(desk.cell(i, what)).append(' ');
            }
            for (int k = 0; k < 10; k++) {
                text.append(desk.cause(i, k, 0)).append(' ').append(desk.cause(i, k, 1)).append(' ');
            }
            text.append(desk.count(i)).append(' ').append(desk.queued(i)).append(' ');
        }
        for (int k = 0; k < 26; k++) {
            text.append(desk.printed(k)).append(' ');
        }
        return text.toString();
    }

    private static void wildCalls(Random random, FiberDesk desk) {
        for (int i = 0; i < 30; i++) {
            int a = wild(random);
            int b = wild(random);
            int c = wild(random);
            desk.effect(a, b, c, wild(random));
            desk.start(a, b);
            desk.run(c);
            desk.interrupt(a);
            desk.keep(a, b);
            desk.fiber(a, b);
            desk.cause(a, b, c);
            desk.queued(a);
            desk.printed(a);
            desk.cell(a, b);
            desk.count(a);
            mustHold(desk);
        }
    }

    private static int wild(Random random) {
        return random.nextInt(3) == 0 ? random.nextInt() : random.nextInt(45) - 3;
    }
}
