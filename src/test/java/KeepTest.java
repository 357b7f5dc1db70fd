/** Promise 6: keep. */
public final class KeepTest {
    public static void main(String[] args) {
        Checks.edge(6, "true: it is kept with v", KeepTest::kept);
        Checks.edge(6, "promises 0 and 3", KeepTest::firstAndLast);
        Checks.edge(6, "kept with 0", KeepTest::keptWithZero);
        Checks.edge(6, "false if it was so: by keep", KeepTest::keptBefore);
        Checks.edge(6, "false if it was so: by KEEP", KeepTest::keptByAnEffect);
        Checks.edge(6, "false if there is none: too small", () -> noSuchPromise(-1, Integer.MIN_VALUE));
        Checks.edge(6, "false if there is none: too large", () -> noSuchPromise(4, 5, Integer.MAX_VALUE));
        Checks.edge(6, "false if nothing is started", KeepTest::nothingStarted);
        Checks.edge(6, "as by KEEP: those that WAIT go on, in the order in which they came", KeepTest::orderOfComing);
        Checks.edge(6, "as by KEEP: they are at the back of others", KeepTest::behindOthers);
        Checks.edge(6, "as by KEEP: nobody WAITS", KeepTest::nobodyWaits);
        Checks.edge(6, "as by KEEP: those of another promise WAIT on", KeepTest::othersWaitOn);
        Checks.edge(6, "as by KEEP: those at a gate of that number WAIT on", KeepTest::gatesWaitOn);
        Checks.edge(6, "while one is at work", KeepTest::whileOneIsAtWork);
        Checks.edge(6, "when all have ENDED", KeepTest::whenAllHaveEnded);
        Checks.finish();
    }

    private static void kept() {
        Program p = new Program();
        p.start(p.await(1), 3);
        p.runOut();
        Checks.due("keep", p.desk.keep(1, -5), true);
        Checks.due("kept", p.desk.cell(1, 1), 1);
        Checks.due("its int", p.desk.cell(1, 2), -5);
        Checks.due("WAIT for it", p.desk.cell(1, 4), 0);
        p.runOut();
        Checks.due("AWAIT", p.exit(0), "-5");
    }

    private static void firstAndLast() {
        for (int n = 0; n <= 3; n++) {
            Program p = new Program();
            p.start(p.await(n), 0);
            Checks.due("keep(" + n + ")", p.desk.keep(n, 30 + n), true);
            for (int m = 0; m <= 3; m++) {
                Checks.due("promise " + m, p.desk.cell(m, 1), m == n ? 1 : 0);
            }
            p.runOut();
            Checks.due("AWAIT " + n, p.exit(0), String.valueOf(30 + n));
        }
    }

    private static void keptWithZero() {
        Program p = new Program();
        p.start(p.await(0), 7);
        p.runOut();
        Checks.due("keep(0, 0)", p.desk.keep(0, 0), true);
        Checks.due("kept", p.desk.cell(0, 1), 1);
        Checks.due("again", p.desk.keep(0, 9), false);
        p.runOut();
        Checks.due("AWAIT", p.exit(0), "0");
    }

    private static void keptBefore() {
        Program p = new Program();
        p.start(p.give(1), 0);
        p.desk.keep(2, 5);
        Checks.due("again with another int", p.desk.keep(2, 6), false);
        Checks.due("again with the same", p.desk.keep(2, 5), false);
        Checks.due("its int", p.desk.cell(2, 2), 5);
    }

    private static void keptByAnEffect() {
        Program p = new Program();
        p.start(p.then(p.keep(2), p.await(1)), 8);
        p.runOut();
        Checks.due("keep", p.desk.keep(2, 6), false);
        Checks.due("its int", p.desk.cell(2, 2), 8);
    }

    private static void noSuchPromise(int... wrong) {
        Program p = new Program();
        p.start(p.await(0), 0);
        p.runOut();
        for (int n : wrong) {
            Checks.due("keep(" + n + ")", p.desk.keep(n, 5), false);
        }
        for (int n = 0; n <= 3; n++) {
            Checks.due("promise " + n, p.desk.cell(n, 1), 0);
        }
        Checks.due("it WAITS on", p.desk.fiber(0, 7), 5);
    }

    private static void nothingStarted() {
        Program p = new Program();
        int e = p.await(0);
        for (int n = 0; n <= 3; n++) {
            Checks.due("keep(" + n + ")", p.desk.keep(n, 5), false);
        }
        p.start(e, 0);
        Checks.due("not kept by that", p.desk.cell(0, 1), 0);
        Checks.due("keep, started", p.desk.keep(0, 5), true);
    }

    /** Fibers 1, 2 and 0 come in this order; all are READY, at the back. */
    private static void orderOfComing() {
        Program p = new Program();
        int await = p.fork(p.await(1));
        p.start(p.then(await, await, p.await(1)), 0);
        p.runOut();
        Checks.due("WAIT for it", p.desk.cell(1, 4), 3);
        p.desk.keep(1, 6);
        Checks.due("the QUEUE", p.queue(), "1 2 0");
        Checks.due("READY", p.desk.fiber(0, 0) + p.desk.fiber(1, 0) + p.desk.fiber(2, 0), 0);
        Checks.due("they WAIT for", p.desk.fiber(0, 7) + p.desk.fiber(1, 7) + p.desk.fiber(2, 7), 0);
        p.runOut();
        Checks.due("fiber 0", p.exit(0), "6");
        Checks.due("fiber 1", p.exit(1), "6");
    }

    private static void behindOthers() {
        Program p = new Program();
        p.start(p.then(p.fork(p.await(0)), p.fork(p.yielding()), p.yielding()), 0);
        p.desk.run(7);
        Checks.due("the QUEUE", p.queue(), "0 2");
        p.desk.keep(0, 5);
        Checks.due("the QUEUE then", p.queue(), "0 2 1");
    }

    private static void nobodyWaits() {
        Program p = new Program();
        p.start(p.await(3), 0);
        Checks.due("keep", p.desk.keep(3, 33), true);
        Checks.due("the QUEUE", p.queue(), "0");
        Checks.due("AWAIT does not WAIT", p.desk.run(2), FiberDesk.DONE);
        Checks.due("its end", p.exit(0), "33");
    }

    private static void othersWaitOn() {
        Program p = new Program();
        p.start(p.then(p.fork(p.await(2)), p.await(1)), 0);
        p.runOut();
        Checks.due("keep(1)", p.desk.keep(1, 5), true);
        Checks.due("the QUEUE", p.queue(), "0");
        Checks.due("WAIT for promise 2", p.desk.cell(2, 4), 1);
    }

    private static void gatesWaitOn() {
        Program p = new Program();
        p.start(p.then(p.take(1), p.take(1)), 0);
        p.runOut();
        Checks.due("keep(1)", p.desk.keep(1, 5), true);
        Checks.due("WAIT for gate 1", p.desk.cell(1, 5), 1);
        Checks.due("it WAITS on", p.desk.fiber(0, 7), 6);
    }

    private static void whileOneIsAtWork() {
        Program p = new Program();
        p.start(p.mask(p.await(0)), 0);
        p.desk.run(1);
        Checks.due("at work", p.desk.count(6), 0);
        Checks.due("keep", p.desk.keep(0, 5), true);
        Checks.due("at work still", p.desk.count(6), 0);
        Checks.due("the QUEUE", p.queue(), "");
        p.runOut();
        Checks.due("its end", p.exit(0), "5");
        Checks.due("TURNS", p.desk.count(5), 1);
    }

    private static void whenAllHaveEnded() {
        Program p = new Program();
        p.start(p.give(1), 0);
        p.runOut();
        Checks.due("keep", p.desk.keep(0, 5), true);
        Checks.due("keep again", p.desk.keep(0, 5), false);
        Checks.due("how all stands", p.desk.count(7), FiberDesk.DONE);
    }
}
