/** A desk with a method for each kind of effect, so that tests can nest them like terms. */
final class Program {
    private static final String[] CAUSES = {"?", "FAIL", "DIE", "INTERRUPT", "THEN", "BOTH"};

    final FiberDesk desk = new FiberDesk();

    private int made(int kind, int a, int b, int c) {
        int e = desk.effect(kind, a, b, c);
        if (e < 0) {
            Checks.due("effect(" + kind + ", " + a + ", " + b + ", " + c + ")", e, "a number");
        }
        return e;
    }

    int give(int n) { return made(0, n, 0, 0); }
    int input(int n) { return made(1, n, 0, 0); }
    int fail(int n) { return made(2, n, 0, 0); }
    int die(int n) { return made(3, n, 0, 0); }
    int fold(int x, int y, int z) { return made(5, x, y, z); }
    int ensure(int x, int y) { return made(6, x, y, 0); }
    int bracket(int x, int y, int z) { return made(7, x, y, z); }
    int mask(int x) { return made(8, x, 0, 0); }
    int restore(int x) { return made(9, x, 0, 0); }
    int scope(int x) { return made(10, x, 0, 0); }
    int close(int x) { return made(11, x, 0, 0); }
    int fork(int x) { return made(12, x, 0, 0); }
    int join() { return made(13, 0, 0, 0); }
    int halt() { return made(14, 0, 0, 0); }
    int race(int x, int y) { return made(15, x, y, 0); }
    int sleep(int n) { return made(16, n, 0, 0); }
    int yielding() { return made(17, 0, 0, 0); }
    int print() { return made(18, 0, 0, 0); }
    int get(int n) { return made(19, n, 0, 0); }
    int set(int n) { return made(20, n, 0, 0); }
    int await(int n) { return made(21, n, 0, 0); }
    int keep(int n) { return made(22, n, 0, 0); }
    int take(int n) { return made(23, n, 0, 0); }
    int leave(int n) { return made(24, n, 0, 0); }
    int pick(int x, int y) { return made(25, x, y, 0); }

    /** The effects one after the other, by THEN, to the left: the last THEN is the outermost. */
    int then(int first, int... others) {
        int all = first;
        for (int e : others) {
            all = made(4, all, e, 0);
        }
        return all;
    }

    /** A GIVE of n, then a PRINT of it. */
    int say(int n) {
        return then(give(n), print());
    }

    void start(int e, int v) {
        Checks.due("start(" + e + ", " + v + ")", desk.start(e, v), true);
    }

    /** Runs until nothing more is done; answers how all stands. */
    int runOut() {
        int stands = FiberDesk.RUNNING;
        for (int i = 0; i < 100 && stands == FiberDesk.RUNNING; i++) {
            stands = desk.run(20);
        }
        return stands;
    }

    /** How fiber 0 ends when e is done with v. */
    String outcome(int e, int v) {
        start(e, v);
        runOut();
        return exit(0);
    }

    /** The VALUE or the CAUSE with which fiber f has ended, as text; else its state. */
    String exit(int f) {
        int state = desk.fiber(f, 0);
        if (state == 2) {
            return String.valueOf(desk.fiber(f, 5));
        }
        if (state != 3) {
            return "state " + state;
        }
        StringBuilder text = new StringBuilder();
        for (int k = 0; k < 20 && desk.cause(f, k, 0) > 0; k++) {
            int kind = desk.cause(f, k, 0);
            text.append(k == 0 ? "" : " ").append(CAUSES[kind]);
            if (kind < 4) {
                text.append(' ').append(desk.cause(f, k, 1));
            }
        }
        return text.toString();
    }

    /** Does e with 0: MASKED of fiber 0 behind each STEP but the last, as digits. */
    String masks(int e) {
        StringBuilder text = new StringBuilder();
        start(e, 0);
        for (int i = 0; i < 40 && desk.run(1) == FiberDesk.RUNNING; i++) {
            text.append(desk.fiber(0, 1));
        }
        return text.toString();
    }

    /** All that was put out and kept. */
    String output() {
        StringBuilder text = new StringBuilder();
        for (int k = 0; k < desk.count(4) && k < 24; k++) {
            text.append(k == 0 ? "" : " ").append(desk.printed(k));
        }
        return text.toString();
    }

    String queue() {
        StringBuilder text = new StringBuilder();
        for (int k = 0; k < 20 && desk.queued(k) >= 0; k++) {
            text.append(k == 0 ? "" : " ").append(desk.queued(k));
        }
        return text.toString();
    }
}
