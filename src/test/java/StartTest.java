/** Promise 3: start. */
public final class StartTest {
    public static void main(String[] args) {
        Checks.edge(3, "fiber 0, READY, not MASKED: true", StartTest::fiberZero);
        Checks.edge(3, "EFFECT e with INPUT v", StartTest::effectAndInput);
        Checks.edge(3, "the first and the 40th EFFECT", StartTest::firstAndLast);
        Checks.edge(3, "false if there is no such EFFECT: too small", () -> noSuchEffect(-1, Integer.MIN_VALUE));
        Checks.edge(3, "false if there is no such EFFECT: too large", () -> noSuchEffect(3, 40, Integer.MAX_VALUE));
        Checks.edge(3, "false: nothing changes in a TURN that is not over", StartTest::falseInATurn);
        Checks.edge(3, "false: nothing changes while fibers WAIT", StartTest::falseWhileWaiting);
        Checks.edge(3, "false: nothing is started", StartTest::falseAtFirst);
        Checks.edge(3, "anew: CLOCK 0", StartTest::clockAnew);
        Checks.edge(3, "anew: nothing put out", StartTest::outputAnew);
        Checks.edge(3, "anew: cells 0", StartTest::cellsAnew);
        Checks.edge(3, "anew: promises not kept", StartTest::promisesAnew);
        Checks.edge(3, "anew: none WAITS for a promise or gate", StartTest::linesAnew);
        Checks.edge(3, "anew: one permit each", StartTest::permitsAnew);
        Checks.edge(3, "anew: fiber 0 alone, with no interrupt and no FRAMES", StartTest::fibersAnew);
        Checks.edge(3, "anew: STEPS, TURNS and the QUEUE", StartTest::workerAnew);
        Checks.edge(3, "anew in a TURN that is not over", StartTest::anewInATurn);
        Checks.edge(3, "anew twice", StartTest::startedTwice);
        Checks.edge(3, "EFFECTS stay", StartTest::effectsStay);
        Checks.finish();
    }

    private static void fiberZero() {
        Program p = new Program();
        int e = p.input(1);
        Checks.due("start", p.desk.start(e, 4), true);
        Checks.due("fibers", p.desk.count(1), 1);
        Checks.due("READY", p.desk.fiber(0, 0), 0);
        Checks.due("not MASKED", p.desk.fiber(0, 1), 0);
        Checks.due("forked by", p.desk.fiber(0, 4), -1);
        Checks.due("the QUEUE", p.queue(), "0");
        Checks.due("how all stands", p.desk.count(7), FiberDesk.RUNNING);
    }

    private static void effectAndInput() {
        Program p = new Program();
        int print = p.print();
        int next = p.input(1);
        for (int v : new int[] {0, -1, Integer.MIN_VALUE, Integer.MAX_VALUE}) {
            Checks.due("PRINT with " + v, p.outcome(print, v), String.valueOf(v));
            Checks.due("INPUT 1 with " + v, p.outcome(next, v), String.valueOf(v + 1));
        }
    }

    private static void firstAndLast() {
        Program p = new Program();
        for (int e = 0; e < 40; e++) {
            p.give(e);
        }
        Checks.due("start(0)", p.outcome(0, 9), "0");
        Checks.due("start(39)", p.outcome(39, 9), "39");
        Checks.due("start(40)", p.desk.start(40, 9), false);
    }

    private static void noSuchEffect(int... wrong) {
        Program p = new Program();
        p.give(1);
        p.give(2);
        p.start(p.give(3), 0);
        for (int e : wrong) {
            Checks.due("start(" + e + ")", p.desk.start(e, 0), false);
        }
        p.runOut();
        Checks.due("what was started before", p.exit(0), "3");
    }

    private static void falseInATurn() {
        Program p = new Program();
        int e = p.then(p.print(), p.fork(p.give(1)), p.give(7));
        p.start(e, 6);
        p.desk.run(4);
        Checks.due("start", p.desk.start(e + 1, 0), false);
        Checks.due("at work", p.desk.count(6), 0);
        Checks.due("STEPS", p.desk.count(3), 4);
        Checks.due("TURNS", p.desk.count(5), 1);
        Checks.due("put out", p.output(), "6");
        p.desk.run(1);
        Checks.due("the TURN is over with its fifth STEP", p.desk.count(6), -1);
        p.runOut();
        Checks.due("its end", p.exit(0), "7");
    }

    private static void falseWhileWaiting() {
        Program p = new Program();
        p.start(p.then(p.set(1), p.sleep(4), p.take(2), p.keep(3), p.await(0)), 8);
        p.runOut();
        Checks.due("start", p.desk.start(-1, 0), false);
        Checks.due("the CLOCK", p.desk.count(2), 4);
        Checks.due("cell 1", p.desk.cell(1, 0), 8);
        Checks.due("permits of gate 2", p.desk.cell(2, 3), 0);
        Checks.due("promise 3", p.desk.cell(3, 2), 8);
        Checks.due("WAITS for promise 0", p.desk.cell(0, 4), 1);
        Checks.due("fiber 0 WAITS", p.desk.fiber(0, 7), 5);
    }

    private static void falseAtFirst() {
        Program p = new Program();
        int e = p.give(1);
        Checks.due("start", p.desk.start(e + 1, 0), false);
        Checks.due("run", p.desk.run(1), FiberDesk.REFUSED);
        Checks.due("fibers", p.desk.count(1), 0);
    }

    private static void clockAnew() {
        Program p = new Program();
        int sleep = p.sleep(7);
        Checks.due("SLEEP", p.outcome(sleep, 1), "1");
        Checks.due("the CLOCK", p.desk.count(2), 7);
        p.start(sleep, 1);
        Checks.due("the CLOCK anew", p.desk.count(2), 0);
        p.runOut();
        Checks.due("the CLOCK behind SLEEP 7", p.desk.count(2), 7);
    }

    private static void outputAnew() {
        Program p = new Program();
        int print = p.print();
        p.outcome(p.then(print, print), 5);
        Checks.due("put out", p.output(), "5 5");
        p.start(print, 6);
        Checks.due("ints put out anew", p.desk.count(4), 0);
        Checks.due("printed(0) anew", p.desk.printed(0), 0);
        p.runOut();
        Checks.due("printed(0)", p.desk.printed(0), 6);
        Checks.due("printed(1)", p.desk.printed(1), 0);
    }

    private static void cellsAnew() {
        Program p = new Program();
        int give = p.give(1);
        p.outcome(p.then(p.set(0), p.set(1), p.set(2), p.set(3)), 5);
        Checks.due("cell 3", p.desk.cell(3, 0), 5);
        p.start(give, 0);
        for (int n = 0; n < 4; n++) {
            Checks.due("cell " + n + " anew", p.desk.cell(n, 0), 0);
        }
    }

    private static void promisesAnew() {
        Program p = new Program();
        int await = p.await(3);
        p.outcome(p.then(p.keep(0), p.keep(1), p.keep(2), p.keep(3)), 5);
        Checks.due("promise 3", p.desk.cell(3, 1), 1);
        p.start(await, 0);
        for (int n = 0; n < 4; n++) {
            Checks.due("promise " + n + " anew", p.desk.cell(n, 1), 0);
            Checks.due("its int", p.desk.cell(n, 2), 0);
        }
        Checks.due("AWAIT", p.runOut(), FiberDesk.STUCK);
    }

    private static void linesAnew() {
        Program p = new Program();
        int take = p.take(1);
        int keep = p.keep(3);
        int leave = p.leave(1);
        p.start(p.then(take, p.fork(take), p.fork(p.await(3)), p.await(3)), 0);
        p.runOut();
        Checks.due("WAIT for promise 3", p.desk.cell(3, 4), 2);
        Checks.due("WAIT for gate 1", p.desk.cell(1, 5), 1);
        p.start(p.then(leave, keep), 0);
        Checks.due("WAIT for promise 3 anew", p.desk.cell(3, 4), 0);
        Checks.due("WAIT for gate 1 anew", p.desk.cell(1, 5), 0);
        p.desk.run(4);
        Checks.due("LEAVE finds none", p.desk.cell(1, 3), 2);
        Checks.due("KEEP finds none", p.queue(), "");
    }

    private static void permitsAnew() {
        Program p = new Program();
        p.outcome(p.then(p.take(0), p.leave(1), p.leave(2), p.leave(2), p.take(3)), 0);
        Checks.due("permits of gate 2", p.desk.cell(2, 3), 3);
        p.start(p.give(1), 0);
        for (int n = 0; n < 4; n++) {
            Checks.due("permits of gate " + n + " anew", p.desk.cell(n, 3), 1);
        }
    }

    private static void fibersAnew() {
        Program p = new Program();
        int e = p.mask(p.then(p.fork(p.await(0)), p.fork(p.await(0)), p.await(0)));
        p.start(e, 0);
        p.runOut();
        p.desk.interrupt(0);
        Checks.due("fibers", p.desk.count(1), 3);
        p.start(e, 0);
        int[] due = {0, 0, 0, 0, -1, 0, 0, 0};
        for (int what = 0; what < due.length; what++) {
            Checks.due("fiber(0, " + what + ") anew", p.desk.fiber(0, what), due[what]);
        }
        Checks.due("fibers anew", p.desk.count(1), 1);
        Checks.due("fiber(1, 0) anew", p.desk.fiber(1, 0), FiberDesk.REFUSED);
        Checks.due("interrupt(1) anew", p.desk.interrupt(1), false);
    }

    private static void workerAnew() {
        Program p = new Program();
        int fork = p.fork(p.yielding());
        p.start(p.then(fork, fork, p.yielding()), 0);
        p.desk.run(6);
        Checks.due("the QUEUE", p.queue(), "2 0 1");
        p.start(fork, 0);
        Checks.due("STEPS anew", p.desk.count(3), 0);
        Checks.due("TURNS anew", p.desk.count(5), 0);
        Checks.due("at work anew", p.desk.count(6), -1);
        Checks.due("the QUEUE anew", p.queue(), "0");
    }

    private static void anewInATurn() {
        Program p = new Program();
        int g = p.input(1);
        int e = p.then(g, g, g);
        p.start(e, 0);
        p.desk.run(3);
        Checks.due("at work", p.desk.count(6), 0);
        p.start(e, 10);
        Checks.due("at work anew", p.desk.count(6), -1);
        p.desk.run(4);
        Checks.due("four STEPS of a new TURN", p.desk.count(6), 0);
        p.desk.run(1);
        Checks.due("five STEPS of it", p.desk.count(6), -1);
        Checks.due("TURNS", p.desk.count(5), 1);
        p.runOut();
        Checks.due("its end", p.exit(0), "13");
    }

    private static void startedTwice() {
        Program p = new Program();
        int e = p.print();
        p.start(e, 1);
        p.start(e, 2);
        Checks.due("the QUEUE", p.queue(), "0");
        p.runOut();
        Checks.due("put out", p.output(), "2");
        Checks.due("STEPS", p.desk.count(3), 2);
    }

    private static void effectsStay() {
        Program p = new Program();
        int e = p.input(3);
        p.outcome(e, 1);
        p.start(e, 2);
        Checks.due("EFFECTS", p.desk.count(0), e + 1);
        Checks.due("the next number", p.give(1), e + 1);
        p.runOut();
        Checks.due("its end", p.exit(0), "5");
    }
}
