/** Promise 5: interrupt, and what interrupting and delivering are. */
public final class InterruptTest {
    private static final String[] REASONS = {"nothing", "JOIN", "HALT", "RACE", "SLEEP", "AWAIT", "TAKE"};

    public static void main(String[] args) {
        Checks.edge(5, "false if nothing is started", InterruptTest::nothingStarted);
        Checks.edge(5, "false if there is none: too small", () -> noSuchFiber(-1, Integer.MIN_VALUE));
        Checks.edge(5, "false if there is none: too large", () -> noSuchFiber(2, 9, 10, Integer.MAX_VALUE));
        Checks.edge(5, "false if it has ENDED with a VALUE", () -> ofTheEnded(true));
        Checks.edge(5, "false if it has ENDED with a CAUSE", () -> ofTheEnded(false));
        Checks.edge(5, "from outside: INTERRUPT -1", InterruptTest::fromOutside);
        Checks.edge(5, "before its first STEP", InterruptTest::beforeItsFirstStep);
        Checks.edge(5, "at work, between two STEPS", InterruptTest::atWork);
        Checks.edge(5, "in the QUEUE it keeps its place", InterruptTest::inTheQueue);
        for (int reason = 1; reason <= 6; reason++) {
            int waits = reason;
            Checks.edge(5, REASONS[waits] + ", WAITS, not MASKED: it is READY, at the back", () -> waitsUnmasked(waits));
            Checks.edge(5, REASONS[waits] + ", WAITS, MASKED: it WAITS on", () -> waitsMasked(waits));
        }
        Checks.edge(5, "READY, at the back of others", InterruptTest::behindOthers);
        Checks.edge(5, "WAITS no more for a promise", InterruptTest::leavesThePromise);
        Checks.edge(5, "WAITS no more for a gate", InterruptTest::leavesTheGate);
        Checks.edge(5, "true, and nothing more, if one is pending", InterruptTest::onePending);
        Checks.edge(5, "true, and nothing more, if one was delivered", InterruptTest::oneDelivered);
        Checks.edge(5, "delivered once: not MASKED it goes on then", InterruptTest::deliveredOnce);
        Checks.edge(5, "by whom it is said: the first one", InterruptTest::byTheFirst);
        Checks.edge(5, "delivering: whatever it would have begun", InterruptTest::insteadOfBeginning);
        Checks.edge(5, "delivering: whatever VALUE it RETURNs", () -> insteadOf(true));
        Checks.edge(5, "delivering: whatever CAUSE it RETURNs", () -> insteadOf(false));
        Checks.edge(5, "delivering: instead of ENDing", InterruptTest::insteadOfEnding);
        Checks.edge(5, "delivering is a STEP, the FRAMES stay", InterruptTest::deliveringIsAStep);
        Checks.edge(5, "MASKED: pending until it is not", InterruptTest::pendingWhileMasked);
        Checks.edge(5, "MASKED up to its end", InterruptTest::maskedToTheEnd);
        Checks.finish();
    }

    private static void nothingStarted() {
        Program p = new Program();
        int e = p.give(1);
        Checks.due("interrupt(0)", p.desk.interrupt(0), false);
        p.start(e, 0);
        Checks.due("none came", p.desk.fiber(0, 3), 0);
    }

    private static void noSuchFiber(int... wrong) {
        Program p = new Program();
        p.start(p.then(p.fork(p.await(0)), p.await(1)), 0);
        p.runOut();
        for (int f : wrong) {
            Checks.due("interrupt(" + f + ")", p.desk.interrupt(f), false);
        }
        Checks.due("all WAIT on", p.desk.count(7), FiberDesk.STUCK);
        Checks.due("interrupt(1)", p.desk.interrupt(1), true);
    }

    private static void ofTheEnded(boolean value) {
        Program p = new Program();
        p.start(p.then(p.fork(value ? p.give(6) : p.fail(6)), p.await(0)), 0);
        p.runOut();
        String end = p.exit(1);
        Checks.due("interrupt(1)", p.desk.interrupt(1), false);
        Checks.due("none came", p.desk.fiber(1, 3), 0);
        Checks.due("the QUEUE", p.queue(), "");
        p.runOut();
        Checks.due("its end", p.exit(1), end);
    }

    private static void fromOutside() {
        Program p = new Program();
        p.start(p.then(p.fork(p.await(0)), p.join()), 0);
        p.runOut();
        Checks.due("interrupt(1)", p.desk.interrupt(1), true);
        p.runOut();
        Checks.due("fiber 1", p.exit(1), "INTERRUPT -1");
        Checks.due("cause(1, 0, 1)", p.desk.cause(1, 0, 1), -1);
        Checks.due("fiber 0, which JOINs it", p.exit(0), "INTERRUPT -1");
        Checks.due("to which none came", p.desk.fiber(0, 3), 0);
    }

    private static void beforeItsFirstStep() {
        Program p = new Program();
        p.start(p.mask(p.print()), 4);
        Checks.due("interrupt(0)", p.desk.interrupt(0), true);
        Checks.due("pending", p.desk.fiber(0, 3), 1);
        Checks.due("run(20)", p.desk.run(20), FiberDesk.DONE);
        Checks.due("its end", p.exit(0), "INTERRUPT -1");
        Checks.due("nothing was begun", p.desk.count(4), 0);
        Checks.due("STEPS", p.desk.fiber(0, 6), 2);
    }

    private static void atWork() {
        Program p = new Program();
        p.start(p.then(p.print(), p.print(), p.print()), 6);
        p.desk.run(4);
        Checks.due("at work", p.desk.count(6), 0);
        Checks.due("interrupt(0)", p.desk.interrupt(0), true);
        Checks.due("at work still", p.desk.count(6), 0);
        Checks.due("the QUEUE", p.queue(), "");
        p.desk.run(1);
        Checks.due("delivered in the same TURN", p.desk.fiber(0, 3), 2);
        Checks.due("TURNS", p.desk.count(5), 1);
        Checks.due("the QUEUE behind five STEPS", p.queue(), "0");
        p.runOut();
        Checks.due("put out", p.output(), "6");
        Checks.due("its end", p.exit(0), "INTERRUPT -1");
    }

    private static void inTheQueue() {
        Program p = new Program();
        p.start(p.then(p.fork(p.print()), p.fork(p.print()), p.await(0)), 0);
        p.desk.run(5);
        Checks.due("the QUEUE", p.queue(), "1 2 0");
        Checks.due("interrupt(1)", p.desk.interrupt(1), true);
        Checks.due("the QUEUE then", p.queue(), "1 2 0");
    }

    /** Fiber 1 comes to WAIT for what 1..6 says, while 0 WAITS for promise 3. */
    private static Program waiting(int reason, boolean masked) {
        Program p = new Program();
        int inner = waitingEffect(p, reason);
        int child = p.fork(masked ? p.mask(inner) : inner);
        p.start(p.mask(p.then(p.take(0), child, p.await(3))), 0);
        for (int i = 0; i < 60 && (p.desk.fiber(1, 0) != 1 || p.desk.fiber(0, 7) != 5); i++) {
            p.desk.run(1);
        }
        Checks.due("fiber 1 WAITS for", p.desk.fiber(1, 7), reason);
        return p;
    }

    private static int waitingEffect(Program p, int reason) {
        switch (reason) {
            case 1: return p.then(p.give(0), p.join());
            case 2: return p.then(p.give(0), p.halt());
            case 3: return p.race(p.await(0), p.await(0));
            case 4: return p.sleep(9);
            case 5: return p.await(0);
            default: return p.take(0);
        }
    }

    private static void waitsUnmasked(int reason) {
        Program p = waiting(reason, false);
        Checks.due("interrupt(1)", p.desk.interrupt(1), true);
        Checks.due("it WAITS for", p.desk.fiber(1, 7), 0);
        Checks.due("READY", p.desk.fiber(1, 0), 0);
        Checks.due("at the back", p.queue().endsWith("1"), true);
        p.desk.keep(3, 0);
        p.runOut();
        Checks.due("its end", p.exit(1), "INTERRUPT -1");
        Checks.due("the CLOCK", p.desk.count(2), 0);
    }

    private static void waitsMasked(int reason) {
        Program p = waiting(reason, true);
        String queue = p.queue();
        Checks.due("interrupt(1)", p.desk.interrupt(1), true);
        Checks.due("it WAITS for", p.desk.fiber(1, 7), reason);
        Checks.due("WAITS", p.desk.fiber(1, 0), 1);
        Checks.due("pending", p.desk.fiber(1, 3), 1);
        Checks.due("the QUEUE", p.queue(), queue);
    }

    private static void behindOthers() {
        Program p = new Program();
        p.start(p.then(p.fork(p.await(0)), p.fork(p.yielding()), p.yielding()), 0);
        p.desk.run(7);
        Checks.due("fiber 1 WAITS for", p.desk.fiber(1, 7), 5);
        Checks.due("the QUEUE", p.queue(), "0 2");
        p.desk.interrupt(1);
        Checks.due("the QUEUE then", p.queue(), "0 2 1");
    }

    private static void leavesThePromise() {
        Program p = new Program();
        p.start(p.then(p.fork(p.await(2)), p.fork(p.await(2)), p.await(1)), 0);
        p.runOut();
        Checks.due("WAIT for promise 2", p.desk.cell(2, 4), 2);
        p.desk.interrupt(1);
        Checks.due("WAIT for it then", p.desk.cell(2, 4), 1);
        p.desk.keep(2, 7);
        Checks.due("the QUEUE", p.queue(), "1 2");
        p.runOut();
        Checks.due("fiber 1", p.exit(1), "INTERRUPT -1");
        Checks.due("fiber 2", p.exit(2), "7");
    }

    private static void leavesTheGate() {
        Program p = new Program();
        int take = p.take(0);
        p.start(p.then(take, p.fork(take), p.fork(take), p.await(1), p.leave(0), p.await(2)), 0);
        p.runOut();
        Checks.due("WAIT for gate 0", p.desk.cell(0, 5), 2);
        p.desk.interrupt(1);
        Checks.due("WAIT for it then", p.desk.cell(0, 5), 1);
        p.desk.keep(1, 0);
        p.runOut();
        Checks.due("fiber 1", p.exit(1), "INTERRUPT -1");
        Checks.due("fiber 2 got the permit", p.exit(2), "1");
        Checks.due("permits", p.desk.cell(0, 3), 0);
    }

    private static void onePending() {
        Program p = new Program();
        p.start(p.mask(p.await(0)), 0);
        p.runOut();
        p.desk.interrupt(0);
        Checks.due("a second one", p.desk.interrupt(0), true);
        Checks.due("pending", p.desk.fiber(0, 3), 1);
        p.desk.keep(0, 1);
        p.runOut();
        Checks.due("its end", p.exit(0), "INTERRUPT -1");
        Checks.due("STEPS", p.desk.fiber(0, 6), 5);
        p.start(p.await(1), 0);
        p.runOut();
        p.desk.interrupt(0);
        p.desk.interrupt(0);
        Checks.due("in the QUEUE once", p.queue(), "0");
    }

    private static void oneDelivered() {
        Program p = new Program();
        p.start(p.ensure(p.await(0), p.await(1)), 0);
        p.runOut();
        p.desk.interrupt(0);
        p.runOut();
        Checks.due("delivered", p.desk.fiber(0, 3), 2);
        Checks.due("a second one", p.desk.interrupt(0), true);
        Checks.due("delivered still", p.desk.fiber(0, 3), 2);
        Checks.due("it WAITS on", p.desk.fiber(0, 7), 5);
        p.desk.keep(1, 0);
        p.runOut();
        Checks.due("its end", p.exit(0), "INTERRUPT -1");
    }

    /** The closer is RESTOREd by a MASK further out, so that it is not MASKED. */
    private static void deliveredOnce() {
        Program p = new Program();
        int closer = p.restore(p.then(p.await(1), p.print()));
        p.start(p.mask(p.restore(p.ensure(p.await(0), closer))), 5);
        p.runOut();
        p.desk.interrupt(0);
        p.runOut();
        Checks.due("not MASKED", p.desk.fiber(0, 1), 0);
        Checks.due("a second one", p.desk.interrupt(0), true);
        Checks.due("it WAITS on", p.desk.fiber(0, 0), 1);
        Checks.due("WAIT for promise 1", p.desk.cell(1, 4), 1);
        p.desk.keep(1, 8);
        p.runOut();
        Checks.due("put out", p.output(), "8");
        Checks.due("its end", p.exit(0), "INTERRUPT -1");
    }

    private static void byTheFirst() {
        Program p = new Program();
        p.start(p.mask(p.then(p.halt(), p.yielding())), 0);
        p.desk.run(3);
        Checks.due("behind HALT of itself", p.desk.interrupt(0), true);
        p.runOut();
        Checks.due("its end", p.exit(0), "INTERRUPT 0");
        p.start(p.mask(p.then(p.yielding(), p.halt())), 0);
        p.desk.run(3);
        Checks.due("before HALT of itself", p.desk.interrupt(0), true);
        p.runOut();
        Checks.due("its end", p.exit(0), "INTERRUPT -1");
    }

    private static void insteadOfBeginning() {
        Program p = new Program();
        p.start(p.then(p.input(0), p.print()), 4);
        p.desk.run(3);
        p.desk.interrupt(0);
        p.runOut();
        Checks.due("PRINT was not begun", p.output(), "");
        Checks.due("its end", p.exit(0), "INTERRUPT -1");
    }

    private static void insteadOf(boolean value) {
        Program p = new Program();
        int said = p.say(9);
        p.start(p.fold(value ? p.give(1) : p.fail(1), said, said), 0);
        p.desk.run(2);
        p.desk.interrupt(0);
        p.runOut();
        Checks.due("neither Y nor Z was done", p.output(), "");
        Checks.due("its end", p.exit(0), "INTERRUPT -1");
    }

    private static void insteadOfEnding() {
        Program p = new Program();
        p.start(p.give(5), 0);
        p.desk.run(1);
        Checks.due("interrupt(0)", p.desk.interrupt(0), true);
        p.desk.run(1);
        Checks.due("not ENDED yet", p.desk.fiber(0, 0), 0);
        p.desk.run(1);
        Checks.due("its end", p.exit(0), "INTERRUPT -1");
    }

    private static void deliveringIsAStep() {
        Program p = new Program();
        p.start(p.then(p.then(p.give(1), p.print()), p.print()), 0);
        p.desk.run(3);
        p.desk.interrupt(0);
        p.desk.run(1);
        Checks.due("STEPS", p.desk.fiber(0, 6), 4);
        Checks.due("delivered", p.desk.fiber(0, 3), 2);
        Checks.due("FRAMES", p.desk.fiber(0, 2), 2);
        p.desk.run(3);
        Checks.due("STEPS at its end", p.desk.fiber(0, 6), 7);
        Checks.due("its end", p.exit(0), "INTERRUPT -1");
    }

    private static void pendingWhileMasked() {
        Program p = new Program();
        p.start(p.then(p.mask(p.then(p.yielding(), p.print())), p.print()), 3);
        p.desk.run(3);
        p.desk.interrupt(0);
        for (int i = 0; i < 20 && p.desk.fiber(0, 1) == 1; i++) {
            Checks.due("pending", p.desk.fiber(0, 3), 1);
            p.desk.run(1);
        }
        p.desk.run(1);
        Checks.due("delivered behind MASK", p.desk.fiber(0, 3), 2);
        p.runOut();
        Checks.due("put out", p.output(), "3");
        Checks.due("its end", p.exit(0), "INTERRUPT -1");
    }

    private static void maskedToTheEnd() {
        Program p = new Program();
        p.start(p.mask(p.fail(6)), 0);
        p.desk.run(2);
        p.desk.interrupt(0);
        p.desk.run(1);
        Checks.due("not MASKED, not ENDED", p.desk.fiber(0, 1) + p.desk.fiber(0, 0), 0);
        p.runOut();
        Checks.due("its end", p.exit(0), "INTERRUPT -1");
    }
}
