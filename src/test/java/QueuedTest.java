/** Promise 9: queued. */
public final class QueuedTest {
    public static void main(String[] args) {
        Checks.edge(9, "the k-th fiber, 0 first", QueuedTest::inOrder);
        Checks.edge(9, "REFUSED if there is none: k too small", () -> noSuch(-1, Integer.MIN_VALUE));
        Checks.edge(9, "REFUSED if there is none: k too large", () -> noSuch(3, 4, 10, Integer.MAX_VALUE));
        Checks.edge(9, "REFUSED if there is none: the QUEUE is empty", QueuedTest::empty);
        Checks.edge(9, "REFUSED if there is none: nothing is started", QueuedTest::nothingStarted);
        Checks.edge(9, "one at work is not in it", QueuedTest::atWork);
        Checks.edge(9, "those that WAIT, SLEEP or have ENDED are not in it", QueuedTest::onlyTheReady);
        Checks.edge(9, "all ten fibers", QueuedTest::tenFibers);
        Checks.finish();
    }

    /** Fiber 0 had its five STEPS, fiber 1 two and YIELDed: 2, 0 and 1 are in the QUEUE. */
    private static Program threeQueued() {
        Program p = new Program();
        int y = p.yielding();
        int fork = p.fork(p.then(y, y));
        p.start(p.then(fork, fork, y), 0);
        p.desk.run(7);
        return p;
    }

    private static void inOrder() {
        Program p = threeQueued();
        Checks.due("queued(0)", p.desk.queued(0), 2);
        Checks.due("queued(1)", p.desk.queued(1), 0);
        Checks.due("queued(2)", p.desk.queued(2), 1);
        p.desk.run(2);
        Checks.due("the QUEUE a TURN later", p.queue(), "0 1 2");
    }

    private static void noSuch(int... wrong) {
        Program p = threeQueued();
        for (int k : wrong) {
            Checks.due("queued(" + k + ")", p.desk.queued(k), FiberDesk.REFUSED);
        }
        Checks.due("queued(2)", p.desk.queued(2), 1);
    }

    private static void empty() {
        Program p = new Program();
        p.start(p.give(1), 0);
        Checks.due("queued(0) before the TURN", p.desk.queued(0), 0);
        Checks.due("queued(1) before the TURN", p.desk.queued(1), FiberDesk.REFUSED);
        p.runOut();
        Checks.due("queued(0)", p.desk.queued(0), FiberDesk.REFUSED);
    }

    private static void nothingStarted() {
        Program p = new Program();
        p.give(1);
        Checks.due("queued(0)", p.desk.queued(0), FiberDesk.REFUSED);
    }

    private static void atWork() {
        Program p = new Program();
        p.start(p.then(p.fork(p.give(1)), p.give(2)), 0);
        p.desk.run(1);
        Checks.due("at work alone", p.desk.queued(0), FiberDesk.REFUSED);
        p.desk.run(1);
        Checks.due("queued(0)", p.desk.queued(0), 1);
        Checks.due("queued(1)", p.desk.queued(1), FiberDesk.REFUSED);
    }

    private static void onlyTheReady() {
        Program p = new Program();
        int e = p.then(p.fork(p.await(0)), p.fork(p.sleep(3)), p.fork(p.give(1)), p.fork(p.yielding()), p.await(1));
        p.start(e, 0);
        for (int i = 0; i < 60 && p.desk.fiber(0, 7) != 5; i++) {
            p.desk.run(1);
        }
        Checks.due("the QUEUE", p.queue(), "4");
        Checks.due("fibers", p.desk.count(1), 5);
    }

    private static void tenFibers() {
        Program p = new Program();
        int fork = p.fork(p.await(0));
        p.start(p.then(fork, fork, fork, fork, fork, fork, fork, fork, fork, p.await(0)), 0);
        p.runOut();
        Checks.due("WAIT for promise 0", p.desk.cell(0, 4), 10);
        p.desk.keep(0, 1);
        boolean[] seen = new boolean[10];
        for (int k = 0; k < 10; k++) {
            int f = p.desk.queued(k);
            Checks.due("queued(" + k + ") is a fiber that was not named", f >= 0 && f < 10 && !seen[f], true);
            seen[Math.max(0, Math.min(9, f))] = true;
        }
        Checks.due("queued(10)", p.desk.queued(10), FiberDesk.REFUSED);
    }
}
