/** Promise 4: run, its STEPS and TURNS, and how all stands. */
public final class RunTest {
    public static void main(String[] args) {
        Checks.edge(4, "REFUSED for another n: too small", () -> refused(0, -1, -20, Integer.MIN_VALUE));
        Checks.edge(4, "REFUSED for another n: too large", () -> refused(21, 22, Integer.MAX_VALUE));
        Checks.edge(4, "REFUSED if nothing is started", RunTest::nothingStarted);
        Checks.edge(4, "REFUSED: the CLOCK and the TURN stand", RunTest::refusedMovesNothing);
        Checks.edge(4, "n of 1 and of 20", RunTest::leastAndMost);
        Checks.edge(4, "up to n STEPS: no more than there are", RunTest::noMoreThanThereAre);
        Checks.edge(4, "up to n STEPS: the n-th is the last", RunTest::endsWithTheLastStep);
        Checks.edge(4, "a run of all that has ENDED", RunTest::runOfTheEnded);
        Checks.edge(4, "a run of what is STUCK", RunTest::runOfTheStuck);
        Checks.edge(4, "a TURN that is not over goes on with the next call", RunTest::turnGoesOn);
        Checks.edge(4, "a TURN has up to 5 STEPS", RunTest::fiveSteps);
        Checks.edge(4, "a TURN ends when it WAITS", RunTest::turnEndsByWaiting);
        Checks.edge(4, "a TURN ends when it YIELDs", RunTest::turnEndsByYielding);
        Checks.edge(4, "a TURN ends when it has ENDED", RunTest::turnEndsByEnding);
        Checks.edge(4, "the fifth STEP WAITS", RunTest::waitsAtTheFifth);
        Checks.edge(4, "the fifth STEP YIELDs", RunTest::yieldsAtTheFifth);
        Checks.edge(4, "the fifth STEP ENDs", RunTest::endsAtTheFifth);
        Checks.edge(4, "READY still, it goes to the back at once", RunTest::backAtOnce);
        Checks.edge(4, "READY still, behind those that it made READY", RunTest::behindWhatItMade);
        Checks.edge(4, "the first of the QUEUE has a TURN", RunTest::turnsGoRound);
        Checks.edge(4, "RUNNING: one is READY", RunTest::runningReady);
        Checks.edge(4, "RUNNING: one SLEEPs", RunTest::runningSleep);
        Checks.edge(4, "DONE: all have ENDED", RunTest::done);
        Checks.edge(4, "DONE: not while another is READY", RunTest::notYetDone);
        Checks.edge(4, "STUCK: else", RunTest::stuck);
        Checks.finish();
    }

    /** MASKs around a GIVE: 2 STEPS for each, one for GIVE, one for the end. */
    private static int tower(Program p, int masks) {
        int e = p.give(1);
        for (int i = 0; i < masks; i++) {
            e = p.mask(e);
        }
        return e;
    }

    private static void refused(int... wrong) {
        Program p = new Program();
        p.start(p.give(1), 0);
        for (int n : wrong) {
            Checks.due("run(" + n + ")", p.desk.run(n), FiberDesk.REFUSED);
            Checks.due("STEPS", p.desk.count(3), 0);
            Checks.due("TURNS", p.desk.count(5), 0);
        }
        Checks.due("run(20)", p.desk.run(20), FiberDesk.DONE);
    }

    private static void nothingStarted() {
        Program p = new Program();
        p.give(1);
        for (int n : new int[] {1, 5, 20, 0, 21}) {
            Checks.due("run(" + n + ")", p.desk.run(n), FiberDesk.REFUSED);
        }
        Checks.due("STEPS", p.desk.count(3), 0);
    }

    private static void refusedMovesNothing() {
        Program p = new Program();
        p.start(p.then(p.sleep(5), p.give(1)), 0);
        p.desk.run(2);
        p.desk.run(21);
        Checks.due("the CLOCK", p.desk.count(2), 0);
        Checks.due("it SLEEPs", p.desk.fiber(0, 7), 4);
        p.desk.run(1);
        p.desk.run(0);
        Checks.due("at work", p.desk.count(6), 0);
        Checks.due("STEPS", p.desk.count(3), 3);
    }

    private static void leastAndMost() {
        Program p = new Program();
        p.start(tower(p, 15), 0);
        Checks.due("run(1)", p.desk.run(1), FiberDesk.RUNNING);
        Checks.due("STEPS", p.desk.count(3), 1);
        Checks.due("run(20)", p.desk.run(20), FiberDesk.RUNNING);
        Checks.due("STEPS", p.desk.count(3), 21);
        Checks.due("run(7)", p.desk.run(7), FiberDesk.RUNNING);
        Checks.due("STEPS", p.desk.count(3), 28);
    }

    private static void noMoreThanThereAre() {
        Program p = new Program();
        p.start(tower(p, 3), 0);
        Checks.due("run(20)", p.desk.run(20), FiberDesk.DONE);
        Checks.due("STEPS", p.desk.count(3), 8);
        Checks.due("TURNS", p.desk.count(5), 2);
    }

    private static void endsWithTheLastStep() {
        Program p = new Program();
        int e = tower(p, 9);
        p.start(e, 0);
        Checks.due("run(19) of 20 STEPS", p.desk.run(19), FiberDesk.RUNNING);
        Checks.due("run(1)", p.desk.run(1), FiberDesk.DONE);
        p.start(e, 0);
        Checks.due("run(20) of 20 STEPS", p.desk.run(20), FiberDesk.DONE);
    }

    private static void runOfTheEnded() {
        Program p = new Program();
        p.start(p.give(1), 0);
        p.desk.run(20);
        Checks.due("run(1)", p.desk.run(1), FiberDesk.DONE);
        Checks.due("run(20)", p.desk.run(20), FiberDesk.DONE);
        Checks.due("STEPS", p.desk.count(3), 2);
        Checks.due("TURNS", p.desk.count(5), 1);
        Checks.due("at work", p.desk.count(6), -1);
    }

    private static void runOfTheStuck() {
        Program p = new Program();
        p.start(p.await(0), 0);
        Checks.due("run(20)", p.desk.run(20), FiberDesk.STUCK);
        Checks.due("run(20) again", p.desk.run(20), FiberDesk.STUCK);
        Checks.due("STEPS", p.desk.count(3), 1);
        Checks.due("TURNS", p.desk.count(5), 1);
        Checks.due("the CLOCK", p.desk.count(2), 0);
    }

    private static void turnGoesOn() {
        Program p = new Program();
        p.start(tower(p, 5), 0);
        for (int step = 1; step <= 4; step++) {
            p.desk.run(1);
            Checks.due("TURNS behind " + step, p.desk.count(5), 1);
            Checks.due("at work behind " + step, p.desk.count(6), 0);
            Checks.due("the QUEUE behind " + step, p.queue(), "");
        }
        p.desk.run(2);
        Checks.due("the sixth STEP is of another TURN", p.desk.count(5), 2);
        p.desk.run(4);
        Checks.due("which has five too", p.desk.count(6), -1);
    }

    /** Who is at work behind each STEP; a dot where a TURN is over. */
    private static String work(Program p, int steps) {
        StringBuilder text = new StringBuilder();
        for (int i = 0; i < steps; i++) {
            p.desk.run(1);
            int f = p.desk.count(6);
            text.append(f < 0 ? "." : String.valueOf(f));
        }
        return text.toString();
    }

    private static void fiveSteps() {
        Program p = new Program();
        p.start(tower(p, 7), 0);
        Checks.due("at work", work(p, 16), "0000.0000.0000..");
        Checks.due("TURNS", p.desk.count(5), 4);
    }

    private static void turnEndsByWaiting() {
        Program p = new Program();
        p.start(p.then(p.fork(p.give(1)), p.await(0)), 0);
        Checks.due("at work", work(p, 4), "000.");
        Checks.due("the QUEUE", p.queue(), "1");
    }

    private static void turnEndsByYielding() {
        Program p = new Program();
        p.start(p.then(p.yielding(), p.yielding()), 0);
        Checks.due("at work", work(p, 5), "0.0..");
        Checks.due("TURNS", p.desk.count(5), 3);
    }

    private static void turnEndsByEnding() {
        Program p = new Program();
        p.start(p.then(p.fork(p.give(1)), p.join()), 0);
        Checks.due("at work", work(p, 6), "000.1.");
        Checks.due("the QUEUE", p.queue(), "0");
    }

    private static void waitsAtTheFifth() {
        Program p = new Program();
        int e = p.await(0);
        for (int i = 0; i < 4; i++) {
            e = p.restore(e);
        }
        p.start(e, 0);
        p.desk.run(5);
        Checks.due("WAITS", p.desk.fiber(0, 0), 1);
        Checks.due("the QUEUE", p.queue(), "");
        p.desk.keep(0, 1);
        Checks.due("the QUEUE behind keep", p.queue(), "0");
    }

    private static void yieldsAtTheFifth() {
        Program p = new Program();
        int e = p.yielding();
        for (int i = 0; i < 4; i++) {
            e = p.mask(e);
        }
        p.start(e, 0);
        p.desk.run(5);
        Checks.due("the QUEUE", p.queue(), "0");
        Checks.due("TURNS", p.desk.count(5), 1);
        Checks.due("at work in the next TURN", work(p, 5), "0000.");
    }

    private static void endsAtTheFifth() {
        Program p = new Program();
        p.start(p.then(p.give(1), p.give(2)), 0);
        Checks.due("run(5)", p.desk.run(5), FiberDesk.DONE);
        Checks.due("the QUEUE", p.queue(), "");
        Checks.due("TURNS", p.desk.count(5), 1);
    }

    private static void backAtOnce() {
        Program p = new Program();
        p.start(tower(p, 5), 0);
        p.desk.run(5);
        Checks.due("the QUEUE", p.queue(), "0");
        Checks.due("at work", p.desk.count(6), -1);
        Checks.due("no TURN is begun by that", p.desk.count(5), 1);
    }

    private static void behindWhatItMade() {
        Program p = new Program();
        p.start(p.mask(p.mask(p.mask(p.mask(p.fork(p.give(0)))))), 0);
        p.desk.run(5);
        Checks.due("the QUEUE", p.queue(), "1 0");
        p.start(p.then(p.fork(p.give(0)), p.yielding()), 0);
        p.desk.run(4);
        Checks.due("the QUEUE behind YIELD", p.queue(), "1 0");
    }

    private static void turnsGoRound() {
        Program p = new Program();
        int work = p.then(p.input(0), p.input(0), p.input(0), p.input(0));
        p.start(p.race(work, work), 0);
        p.desk.run(1);
        Checks.due("at work", work(p, 22), "1111.2222.1111.2222..2");
        Checks.due("TURNS", p.desk.count(5), 7);
        Checks.due("STEPS of 1", p.desk.fiber(1, 6), 11);
    }

    private static void runningReady() {
        Program p = new Program();
        p.start(p.then(p.fork(p.await(0)), p.await(1)), 0);
        Checks.due("before the first STEP", p.desk.count(7), FiberDesk.RUNNING);
        Checks.due("one in the QUEUE, one WAITS", p.desk.run(4), FiberDesk.RUNNING);
        Checks.due("all WAIT", p.desk.run(20), FiberDesk.STUCK);
        p.desk.keep(0, 1);
        Checks.due("one is READY again", p.desk.count(7), FiberDesk.RUNNING);
        Checks.due("one at work alone", p.desk.run(1), FiberDesk.STUCK);
        p.start(p.mask(p.give(1)), 0);
        Checks.due("at work", p.desk.run(1), FiberDesk.RUNNING);
    }

    private static void runningSleep() {
        Program p = new Program();
        p.start(p.sleep(5), 0);
        Checks.due("it SLEEPs alone", p.desk.run(1), FiberDesk.RUNNING);
        Checks.due("count(7)", p.desk.count(7), FiberDesk.RUNNING);
        p.start(p.then(p.fork(p.sleep(4)), p.await(1)), 0);
        Checks.due("one SLEEPs, one WAITS", p.desk.run(5), FiberDesk.RUNNING);
        Checks.due("one has ENDED, one WAITS", p.desk.run(20), FiberDesk.STUCK);
    }

    private static void done() {
        Program p = new Program();
        p.start(p.give(1), 0);
        Checks.due("with a VALUE", p.desk.run(20), FiberDesk.DONE);
        p.start(p.fail(1), 0);
        Checks.due("with a CAUSE", p.desk.run(20), FiberDesk.DONE);
        p.start(p.race(p.give(1), p.fail(2)), 0);
        Checks.due("three fibers", p.desk.run(20), FiberDesk.DONE);
        Checks.due("count(7)", p.desk.count(7), FiberDesk.DONE);
    }

    private static void notYetDone() {
        Program p = new Program();
        p.start(p.fork(p.give(1)), 0);
        Checks.due("fiber 0 has ENDED, 1 is READY", p.desk.run(2), FiberDesk.RUNNING);
        Checks.due("fiber 0", p.exit(0), "1");
        Checks.due("both have ENDED", p.desk.run(20), FiberDesk.DONE);
    }

    private static void stuck() {
        Program p = new Program();
        p.start(p.then(p.fork(p.give(1)), p.take(0), p.take(0)), 0);
        Checks.due("one WAITS, one has ENDED", p.runOut(), FiberDesk.STUCK);
        Checks.due("count(7)", p.desk.count(7), FiberDesk.STUCK);
        p.desk.interrupt(0);
        Checks.due("READY again", p.desk.count(7), FiberDesk.RUNNING);
        Checks.due("all have ENDED", p.desk.run(20), FiberDesk.DONE);
    }
}
