/** Promise 7: fiber. */
public final class FiberTest {
    public static void main(String[] args) {
        Checks.edge(7, "REFUSED for others: f too small", () -> noSuchFiber(-1, Integer.MIN_VALUE));
        Checks.edge(7, "REFUSED for others: f too large", () -> noSuchFiber(2, 9, 10, Integer.MAX_VALUE));
        Checks.edge(7, "REFUSED for others: what too small", () -> noSuchWhat(-1, Integer.MIN_VALUE));
        Checks.edge(7, "REFUSED for others: what too large", () -> noSuchWhat(8, 9, Integer.MAX_VALUE));
        Checks.edge(7, "REFUSED for others: nothing is started", FiberTest::nothingStarted);
        Checks.edge(7, "the tenth fiber", FiberTest::theTenth);
        Checks.edge(7, "what 0: READY in the QUEUE and at work", FiberTest::ready);
        Checks.edge(7, "what 0: WAITS", FiberTest::waits);
        Checks.edge(7, "what 0: ENDED with a VALUE", FiberTest::endedWithValue);
        Checks.edge(7, "what 0: ENDED with a CAUSE", FiberTest::endedWithCause);
        Checks.edge(7, "what 1: MASKED", FiberTest::masked);
        Checks.edge(7, "what 2: FRAMES, none to 16", FiberTest::frames);
        Checks.edge(7, "what 3: no interrupt, pending, delivered", FiberTest::interrupts);
        Checks.edge(7, "what 3: of one that has ENDED", FiberTest::interruptsOfTheEnded);
        Checks.edge(7, "what 4: who forked or raced it, -1 for fiber 0", FiberTest::parents);
        Checks.edge(7, "what 5: 0 if it has not ENDED", FiberTest::noValueYet);
        Checks.edge(7, "what 5: a VALUE of any int", FiberTest::values);
        Checks.edge(7, "what 6: STEPS", FiberTest::steps);
        Checks.edge(7, "what 7: for what it WAITS", FiberTest::waitsFor);
        Checks.edge(7, "what 7: 0 nothing", FiberTest::waitsForNothing);
        Checks.edge(7, "of one that has ENDED what 1 and 2 are 0", FiberTest::ofTheEnded);
        Checks.finish();
    }

    private static Program twoFibers() {
        Program p = new Program();
        p.start(p.then(p.fork(p.await(0)), p.await(1)), 0);
        p.runOut();
        return p;
    }

    private static void noSuchFiber(int... wrong) {
        Program p = twoFibers();
        for (int f : wrong) {
            for (int what = 0; what <= 7; what++) {
                Checks.due("fiber(" + f + ", " + what + ")", p.desk.fiber(f, what), FiberDesk.REFUSED);
            }
        }
    }

    private static void noSuchWhat(int... wrong) {
        Program p = twoFibers();
        for (int what : wrong) {
            Checks.due("fiber(0, " + what + ")", p.desk.fiber(0, what), FiberDesk.REFUSED);
            Checks.due("fiber(1, " + what + ")", p.desk.fiber(1, what), FiberDesk.REFUSED);
        }
    }

    private static void nothingStarted() {
        Program p = new Program();
        p.give(1);
        for (int what = 0; what <= 7; what++) {
            Checks.due("fiber(0, " + what + ")", p.desk.fiber(0, what), FiberDesk.REFUSED);
        }
    }

    private static void theTenth() {
        Program p = new Program();
        int fork = p.fork(p.await(0));
        p.start(p.then(fork, fork, fork, fork, fork, fork, fork, fork, fork, p.await(0)), 0);
        p.runOut();
        Checks.due("fiber(9, 7)", p.desk.fiber(9, 7), 5);
        Checks.due("fiber(10, 7)", p.desk.fiber(10, 7), FiberDesk.REFUSED);
    }

    private static void ready() {
        Program p = new Program();
        p.start(p.mask(p.give(1)), 0);
        Checks.due("in the QUEUE", p.desk.fiber(0, 0), 0);
        p.desk.run(1);
        Checks.due("at work", p.desk.fiber(0, 0), 0);
    }

    private static void waits() {
        Program p = twoFibers();
        Checks.due("fiber 0", p.desk.fiber(0, 0), 1);
        Checks.due("fiber 1", p.desk.fiber(1, 0), 1);
        p.desk.keep(0, 5);
        Checks.due("fiber 0 WAITS on", p.desk.fiber(0, 0), 1);
        Checks.due("fiber 1 goes on", p.desk.fiber(1, 0), 0);
    }

    private static void endedWithValue() {
        Program p = new Program();
        p.start(p.give(0), 0);
        p.desk.run(1);
        Checks.due("a VALUE that is RETURNed yet", p.desk.fiber(0, 0), 0);
        p.desk.run(1);
        Checks.due("ENDED", p.desk.fiber(0, 0), 2);
    }

    private static void endedWithCause() {
        Program p = new Program();
        p.start(p.fail(0), 0);
        p.desk.run(1);
        Checks.due("a CAUSE that is RETURNed yet", p.desk.fiber(0, 0), 0);
        p.desk.run(1);
        Checks.due("ENDED", p.desk.fiber(0, 0), 3);
    }

    private static void masked() {
        Program p = new Program();
        p.start(p.mask(p.give(1)), 0);
        Checks.due("before MASK", p.desk.fiber(0, 1), 0);
        p.desk.run(1);
        Checks.due("in MASK", p.desk.fiber(0, 1), 1);
        p.desk.run(2);
        Checks.due("behind MASK", p.desk.fiber(0, 1), 0);
    }

    private static void frames() {
        Program p = new Program();
        int e = p.give(1);
        for (int i = 0; i < 16; i++) {
            e = p.scope(e);
        }
        p.start(e, 0);
        for (int n = 0; n <= 16; n++) {
            Checks.due("FRAMES behind " + n + " STEPS", p.desk.fiber(0, 2), n);
            p.desk.run(1);
        }
        for (int n = 16; n >= 0; n--) {
            Checks.due("FRAMES left", p.desk.fiber(0, 2), n);
            p.desk.run(1);
        }
    }

    private static void interrupts() {
        Program p = new Program();
        p.start(p.ensure(p.mask(p.await(0)), p.await(1)), 0);
        p.runOut();
        Checks.due("none came", p.desk.fiber(0, 3), 0);
        p.desk.interrupt(0);
        Checks.due("pending", p.desk.fiber(0, 3), 1);
        p.desk.keep(0, 0);
        p.desk.run(1);
        Checks.due("pending as long as it is MASKED", p.desk.fiber(0, 3), 1);
        p.desk.run(1);
        Checks.due("delivered", p.desk.fiber(0, 3), 2);
    }

    private static void interruptsOfTheEnded() {
        Program p = new Program();
        p.start(p.then(p.fork(p.give(1)), p.fork(p.await(0)), p.await(1)), 0);
        p.runOut();
        p.desk.interrupt(2);
        p.runOut();
        Checks.due("of one to which none came", p.desk.fiber(1, 3), 0);
        Checks.due("of one to which one was delivered", p.desk.fiber(2, 3), 2);
    }

    private static void parents() {
        Program p = new Program();
        int grandchildren = p.race(p.await(0), p.fork(p.await(0)));
        p.start(p.then(p.fork(p.give(1)), p.fork(grandchildren), p.await(1)), 0);
        p.runOut();
        int[] due = {-1, 0, 0, 2, 2, 4};
        for (int f = 0; f < due.length; f++) {
            Checks.due("fiber(" + f + ", 4)", p.desk.fiber(f, 4), due[f]);
        }
    }

    private static void noValueYet() {
        Program p = new Program();
        p.start(p.mask(p.give(-4)), 6);
        for (int i = 0; i < 3; i++) {
            Checks.due("before its end", p.desk.fiber(0, 5), 0);
            p.desk.run(1);
        }
        Checks.due("a VALUE that is RETURNed yet", p.desk.fiber(0, 5), 0);
        p.desk.run(1);
        Checks.due("ENDED with a VALUE", p.desk.fiber(0, 5), -4);
        p.start(p.then(p.give(7), p.fail(9)), 3);
        p.runOut();
        Checks.due("ENDED with a CAUSE", p.desk.fiber(0, 5), 0);
    }

    private static void values() {
        Program p = new Program();
        for (int v : new int[] {0, -1, -2, Integer.MIN_VALUE, Integer.MAX_VALUE}) {
            p.start(p.give(v), 3);
            p.runOut();
            Checks.due("the VALUE", p.desk.fiber(0, 5), v);
            Checks.due("ENDED with a VALUE", p.desk.fiber(0, 0), 2);
        }
    }

    private static void steps() {
        Program p = new Program();
        p.start(p.then(p.fork(p.give(1)), p.join()), 0);
        Checks.due("none at first", p.desk.fiber(0, 6), 0);
        p.desk.run(4);
        Checks.due("fiber 0", p.desk.fiber(0, 6), 4);
        Checks.due("fiber 1 in the QUEUE", p.desk.fiber(1, 6), 0);
        p.desk.run(1);
        Checks.due("fiber 1", p.desk.fiber(1, 6), 1);
        p.desk.run(2);
        Checks.due("fiber 1 at its end", p.desk.fiber(1, 6), 2);
        Checks.due("fiber 0 at its end", p.desk.fiber(0, 6), 5);
        p.desk.run(20);
        Checks.due("no more than that", p.desk.fiber(0, 6), 5);
    }

    private static void waitsFor() {
        Program p = new Program();
        int zero = p.give(0);
        int halted = p.mask(p.then(p.fork(p.then(zero, p.halt())), p.await(0)));
        waitsFor(p, p.then(zero, p.join()), 0, 1);
        waitsFor(p, halted, 1, 2);
        waitsFor(p, p.race(p.await(0), p.await(0)), 0, 3);
        waitsFor(p, p.sleep(9), 0, 4);
        waitsFor(p, p.await(0), 0, 5);
        waitsFor(p, p.then(p.take(0), p.take(0)), 0, 6);
    }

    private static void waitsFor(Program p, int e, int f, int reason) {
        p.start(e, 0);
        for (int i = 0; i < 20 && p.desk.fiber(f, 7) <= 0; i++) {
            p.desk.run(1);
        }
        Checks.due("WAITS for", p.desk.fiber(f, 7), reason);
        Checks.due("WAITS", p.desk.fiber(f, 0), 1);
    }

    private static void waitsForNothing() {
        Program p = new Program();
        p.start(p.mask(p.await(0)), 0);
        Checks.due("in the QUEUE", p.desk.fiber(0, 7), 0);
        p.desk.run(1);
        Checks.due("at work", p.desk.fiber(0, 7), 0);
        p.runOut();
        p.desk.keep(0, 1);
        Checks.due("READY again", p.desk.fiber(0, 7), 0);
        p.runOut();
        Checks.due("ENDED", p.desk.fiber(0, 7), 0);
    }

    private static void ofTheEnded() {
        Program p = new Program();
        int deep = p.mask(p.bracket(p.give(1), p.scope(p.mask(p.die(1))), p.give(2)));
        p.start(deep, 0);
        p.runOut();
        Checks.due("what 1", p.desk.fiber(0, 1), 0);
        Checks.due("what 2", p.desk.fiber(0, 2), 0);
        p.start(deep, 0);
        p.desk.run(3);
        p.desk.interrupt(0);
        p.runOut();
        Checks.due("what 1, interrupted", p.desk.fiber(0, 1), 0);
        Checks.due("what 2, interrupted", p.desk.fiber(0, 2), 0);
    }
}
