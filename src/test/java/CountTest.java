/** Promise 12: count. */
public final class CountTest {
    public static void main(String[] args) {
        Checks.edge(12, "nothing is started: 1 to 5 are 0, 6 and 7 -1", CountTest::nothingStarted);
        Checks.edge(12, "what 0: EFFECTS, none to 40", CountTest::effects);
        Checks.edge(12, "what 1: fibers, one to ten, the ENDED too", CountTest::fibers);
        Checks.edge(12, "what 2: the CLOCK", CountTest::clock);
        Checks.edge(12, "what 3: STEPS done, of all fibers", CountTest::steps);
        Checks.edge(12, "what 4: ints put out, also those not kept", CountTest::putOut);
        Checks.edge(12, "what 5: TURNS begun", CountTest::turns);
        Checks.edge(12, "what 6: the fiber at work, -1 if none", CountTest::atWork);
        Checks.edge(12, "what 7: how all stands, as run says", CountTest::stands);
        Checks.edge(12, "REFUSED for others: too small", () -> noSuchWhat(-1, Integer.MIN_VALUE));
        Checks.edge(12, "REFUSED for others: too large", () -> noSuchWhat(8, 9, Integer.MAX_VALUE));
        Checks.edge(12, "one run, told from its start to its end", CountTest::oneRun);
        Checks.finish();
    }

    private static void all(Program p, int... due) {
        for (int what = 0; what < due.length; what++) {
            Checks.due("count(" + what + ")", p.desk.count(what), due[what]);
        }
    }

    private static void nothingStarted() {
        Program p = new Program();
        all(p, 0, 0, 0, 0, 0, 0, -1, -1);
        p.give(1);
        all(p, 1, 0, 0, 0, 0, 0, -1, -1);
        p.desk.start(1, 0);
        all(p, 1, 0, 0, 0, 0, 0, -1, -1);
    }

    private static void effects() {
        Program p = new Program();
        for (int e = 0; e < 40; e++) {
            Checks.due("count(0)", p.desk.count(0), e);
            p.give(1);
        }
        Checks.due("count(0)", p.desk.count(0), 40);
        p.desk.effect(0, 1, 0, 0);
        Checks.due("count(0) behind FULL", p.desk.count(0), 40);
    }

    private static void fibers() {
        Program p = new Program();
        int fork = p.fork(p.give(1));
        p.start(p.then(fork, fork, fork, fork, fork, fork, fork, fork, fork, fork), 0);
        Checks.due("count(1)", p.desk.count(1), 1);
        p.runOut();
        Checks.due("all have ENDED", p.desk.count(7), FiberDesk.DONE);
        Checks.due("count(1)", p.desk.count(1), 10);
    }

    private static void clock() {
        Program p = new Program();
        int sleep = p.sleep(1000);
        p.start(p.then(sleep, sleep, sleep), 0);
        Checks.due("at first", p.desk.count(2), 0);
        p.runOut();
        Checks.due("count(2)", p.desk.count(2), 3000);
    }

    private static void steps() {
        Program p = new Program();
        p.start(p.race(p.give(1), p.give(2)), 0);
        p.runOut();
        int sum = p.desk.fiber(0, 6) + p.desk.fiber(1, 6) + p.desk.fiber(2, 6);
        Checks.due("count(3)", p.desk.count(3), 6);
        Checks.due("STEPS of all three", sum, 6);
    }

    private static void putOut() {
        Program p = new Program();
        int print = p.print();
        int all = print;
        for (int i = 1; i < 30; i++) {
            all = p.then(print, all);
        }
        p.start(all, 9);
        Checks.due("at first", p.desk.count(4), 0);
        p.runOut();
        Checks.due("count(4)", p.desk.count(4), 30);
    }

    private static void turns() {
        Program p = new Program();
        p.start(p.then(p.yielding(), p.yielding()), 0);
        Checks.due("at first", p.desk.count(5), 0);
        p.desk.run(1);
        Checks.due("behind a STEP", p.desk.count(5), 1);
        p.desk.run(1);
        Checks.due("a TURN is over, none is begun", p.desk.count(5), 1);
        p.desk.run(1);
        Checks.due("another TURN", p.desk.count(5), 2);
        p.runOut();
        Checks.due("at the end", p.desk.count(5), 3);
    }

    private static void atWork() {
        Program p = new Program();
        p.start(p.then(p.fork(p.mask(p.give(1))), p.join()), 0);
        Checks.due("before the first TURN", p.desk.count(6), -1);
        p.desk.run(1);
        Checks.due("fiber 0", p.desk.count(6), 0);
        p.desk.run(3);
        Checks.due("fiber 0 WAITS", p.desk.count(6), -1);
        p.desk.run(1);
        Checks.due("fiber 1", p.desk.count(6), 1);
        p.runOut();
        Checks.due("all have ENDED", p.desk.count(6), -1);
    }

    private static void stands() {
        Program p = new Program();
        p.start(p.then(p.sleep(1), p.await(0)), 0);
        Checks.due("READY", p.desk.count(7), FiberDesk.RUNNING);
        Checks.due("run", p.desk.run(2), p.desk.count(7));
        Checks.due("SLEEPs", p.desk.count(7), FiberDesk.RUNNING);
        Checks.due("run", p.desk.run(20), p.desk.count(7));
        Checks.due("WAITS", p.desk.count(7), FiberDesk.STUCK);
        p.desk.keep(0, 1);
        Checks.due("run", p.desk.run(20), p.desk.count(7));
        Checks.due("ENDED", p.desk.count(7), FiberDesk.DONE);
    }

    private static void noSuchWhat(int... wrong) {
        Program p = new Program();
        int e = p.give(1);
        for (int what : wrong) {
            Checks.due("count(" + what + ")", p.desk.count(what), FiberDesk.REFUSED);
        }
        p.start(e, 0);
        for (int what : wrong) {
            Checks.due("count(" + what + "), started", p.desk.count(what), FiberDesk.REFUSED);
        }
    }

    private static void oneRun() {
        Program p = new Program();
        int e = p.then(p.fork(p.await(0)), p.print(), p.sleep(6), p.await(1));
        p.start(e, 0);
        all(p, e + 1, 1, 0, 0, 0, 0, -1, 0);
        p.desk.run(4);
        all(p, e + 1, 2, 0, 4, 0, 1, 0, 0);
        p.desk.run(1);
        all(p, e + 1, 2, 0, 5, 0, 1, -1, 0);
        p.desk.run(1);
        all(p, e + 1, 2, 0, 6, 0, 2, -1, 0);
        p.desk.run(3);
        all(p, e + 1, 2, 0, 9, 1, 3, -1, 0);
        p.desk.run(20);
        all(p, e + 1, 2, 6, 11, 1, 4, -1, 2);
        p.desk.keep(1, 0);
        all(p, e + 1, 2, 6, 11, 1, 4, -1, 0);
        p.desk.run(20);
        all(p, e + 1, 2, 6, 14, 1, 6, -1, 1);
    }
}
