/** Promise 4: FORK, JOIN and HALT, and what happens when a fiber has ENDED. */
public final class ForkTest {
    public static void main(String[] args) {
        Checks.edge(4, "FORK X: its number; X with v, READY", ForkTest::forks);
        Checks.edge(4, "FORK X: not MASKED, though the one that forks is", ForkTest::forkIsNotMasked);
        Checks.edge(4, "FORK X: the tenth fiber", ForkTest::tenthFiber);
        Checks.edge(4, "FORK X: DIE -1 if there are 10 fibers", ForkTest::eleventhFiber);
        Checks.edge(4, "FORK X: DIE -1 if there are 10 fibers, though they have ENDED", ForkTest::endedOnesCount);
        Checks.edge(4, "JOIN: its EXIT, a VALUE", ForkTest::joinOfAValue);
        Checks.edge(4, "JOIN: its EXIT, a CAUSE", ForkTest::joinOfACause);
        Checks.edge(4, "JOIN: at once if it has ENDED with a VALUE", () -> joinAtOnce(true));
        Checks.edge(4, "JOIN: at once if it has ENDED with a CAUSE", () -> joinAtOnce(false));
        Checks.edge(4, "JOIN: WAITS until it has ENDED", ForkTest::joinWaits);
        Checks.edge(4, "JOIN: DIE -2 if there is no fiber v: too small", () -> noFiber(13, -1, Integer.MIN_VALUE));
        Checks.edge(4, "JOIN: DIE -2 if there is no fiber v: too large", () -> noFiber(13, 1, 9, 10, Integer.MAX_VALUE));
        Checks.edge(4, "JOIN: of itself WAITS, until it is interrupted", ForkTest::joinOfItself);
        Checks.edge(4, "JOIN: of the tenth fiber", ForkTest::joinOfTheTenth);
        Checks.edge(4, "HALT: interrupts, WAITS until it has ENDED: 0", ForkTest::haltWaits);
        Checks.edge(4, "HALT: at once if it has ENDED with a VALUE: 0", () -> haltAtOnce(true));
        Checks.edge(4, "HALT: at once if it has ENDED with a CAUSE: 0", () -> haltAtOnce(false));
        Checks.edge(4, "HALT: DIE -2 if there is no fiber v: too small", () -> noFiber(14, -1, Integer.MIN_VALUE));
        Checks.edge(4, "HALT: DIE -2 if there is no fiber v: too large", () -> noFiber(14, 1, 9, 10, Integer.MAX_VALUE));
        Checks.edge(4, "HALT: itself without WAITING: 0", ForkTest::haltOfItself);
        Checks.edge(4, "HALT: itself, MASKED: it goes on with 0", ForkTest::haltOfItselfMasked);
        Checks.edge(4, "HALT: of one that is MASKED", ForkTest::haltOfTheMasked);
        Checks.edge(4, "HALT: of one that has an interrupt pending", ForkTest::haltOfTheInterrupted);
        Checks.edge(4, "HALT: of one that has not had a STEP", ForkTest::haltOfTheNew);
        Checks.edge(4, "ENDED: those that WAIT for it go on, by numbers", ForkTest::goOnByNumbers);
        Checks.edge(4, "ENDED: those that WAIT for another WAIT on", ForkTest::othersWaitOn);
        Checks.edge(4, "ENDED: those that it forked are interrupted by it", ForkTest::childrenAreInterrupted);
        Checks.edge(4, "ENDED: those that go on stand before those interrupted", ForkTest::waitersBeforeChildren);
        Checks.edge(4, "ENDED: those forked by others are not interrupted", ForkTest::grandchildrenAreNot);
        Checks.edge(4, "ENDED: of those that it forked, one that has ENDED", ForkTest::endedChild);
        Checks.edge(4, "ENDED: of those that it forked, one that is MASKED", ForkTest::maskedChild);
        Checks.finish();
    }

    private static void forks() {
        Program p = new Program();
        p.start(p.fork(p.input(3)), 4);
        p.desk.run(1);
        Checks.due("fibers", p.desk.count(1), 2);
        Checks.due("forked by", p.desk.fiber(1, 4), 0);
        Checks.due("READY", p.queue(), "1");
        Checks.due("the one that forks is at work", p.desk.count(6), 0);
        p.desk.run(1);
        Checks.due("its number", p.exit(0), "1");
        Checks.due("X with v", p.outcome(p.then(p.fork(p.input(3)), p.join()), 4), "7");
    }

    private static void forkIsNotMasked() {
        Program p = new Program();
        p.start(p.mask(p.fork(p.yielding())), 4);
        p.desk.run(2);
        Checks.due("fiber 0", p.desk.fiber(0, 1), 1);
        Checks.due("fiber 1", p.desk.fiber(1, 1), 0);
        Checks.due("its FRAMES", p.desk.fiber(1, 2), 0);
    }

    private static int nineForks(Program p, int e) {
        int fork = p.fork(e);
        return p.then(fork, fork, fork, fork, fork, fork, fork, fork, fork);
    }

    private static void tenthFiber() {
        Program p = new Program();
        Checks.due("nine FORKs", p.outcome(nineForks(p, p.await(0)), 0), "9");
        Checks.due("fibers", p.desk.count(1), 10);
    }

    private static void eleventhFiber() {
        Program p = new Program();
        int nine = nineForks(p, p.await(0));
        Checks.due("a tenth FORK", p.outcome(p.then(nine, p.fork(p.print())), 0), "DIE -1");
        Checks.due("fibers", p.desk.count(1), 10);
        Checks.due("put out", p.output(), "");
    }

    private static void endedOnesCount() {
        Program p = new Program();
        int nine = nineForks(p, p.give(1));
        p.start(p.then(nine, p.sleep(1), p.fork(p.print())), 0);
        p.runOut();
        Checks.due("fiber 9", p.exit(9), "1");
        Checks.due("a tenth FORK", p.exit(0), "DIE -1");
        Checks.due("fibers", p.desk.count(1), 10);
    }

    private static void joinOfAValue() {
        Program p = new Program();
        Checks.due("JOIN", p.outcome(p.then(p.fork(p.sleep(2)), p.join()), 6), "6");
    }

    private static void joinOfACause() {
        Program p = new Program();
        int two = p.ensure(p.fail(1), p.die(2));
        Checks.due("JOIN", p.outcome(p.then(p.fork(two), p.join()), 0), "THEN FAIL 1 DIE 2");
        Checks.due("fiber 1", p.exit(1), "THEN FAIL 1 DIE 2");
        int folded = p.fold(p.then(p.fork(p.fail(5)), p.join()), p.give(0), p.input(20));
        Checks.due("FAIL n is folded", p.outcome(folded, 0), "25");
    }

    private static void joinAtOnce(boolean value) {
        Program p = new Program();
        p.start(p.then(p.fork(value ? p.give(6) : p.fail(6)), p.sleep(1), p.join()), 0);
        for (int i = 0; i < 40 && p.desk.count(2) == 0; i++) {
            p.desk.run(1);
        }
        p.desk.run(1);
        Checks.due("behind JOIN at work", p.desk.count(6), 0);
        Checks.due("it WAITS for", p.desk.fiber(0, 7), 0);
        p.desk.run(1);
        Checks.due("JOIN", p.exit(0), value ? "6" : "FAIL 6");
    }

    private static void joinWaits() {
        Program p = new Program();
        p.start(p.then(p.fork(p.await(0)), p.join()), 0);
        Checks.due("run", p.runOut(), FiberDesk.STUCK);
        Checks.due("it WAITS for", p.desk.fiber(0, 7), 1);
        p.desk.keep(0, 8);
        Checks.due("it WAITS on", p.desk.fiber(0, 7), 1);
        p.desk.run(1);
        Checks.due("READY when fiber 1 has ENDED", p.queue(), "0");
        p.runOut();
        Checks.due("JOIN", p.exit(0), "8");
    }

    private static void noFiber(int kind, int... wrong) {
        Program p = new Program();
        int e = p.desk.effect(kind, 0, 0, 0);
        for (int v : wrong) {
            p.start(e, v);
            Checks.due("run(2) with " + v, p.desk.run(2), FiberDesk.DONE);
            Checks.due("its end with " + v, p.exit(0), "DIE -2");
        }
    }

    private static void joinOfItself() {
        Program p = new Program();
        p.start(p.join(), 0);
        Checks.due("run", p.runOut(), FiberDesk.STUCK);
        Checks.due("it WAITS for", p.desk.fiber(0, 7), 1);
        Checks.due("STEPS", p.desk.count(3), 1);
        p.desk.interrupt(0);
        Checks.due("run", p.runOut(), FiberDesk.DONE);
        Checks.due("its end", p.exit(0), "INTERRUPT -1");
    }

    private static void joinOfTheTenth() {
        Program p = new Program();
        Checks.due("JOIN", p.outcome(p.then(nineForks(p, p.input(40)), p.join()), 0), "48");
        Checks.due("fiber 9", p.exit(9), "48");
    }

    private static void haltWaits() {
        Program p = new Program();
        int slow = p.ensure(p.await(0), p.sleep(3));
        p.start(p.then(p.fork(slow), p.yielding(), p.halt()), 0);
        for (int i = 0; i < 40 && p.desk.fiber(0, 0) == 0; i++) {
            p.desk.run(1);
        }
        Checks.due("it WAITS for", p.desk.fiber(0, 7), 2);
        Checks.due("fiber 1 is READY", p.queue(), "1");
        Checks.due("pending", p.desk.fiber(1, 3), 1);
        p.runOut();
        Checks.due("HALT", p.exit(0), "0");
        Checks.due("the CLOCK, behind the CLOSER", p.desk.count(2), 3);
        Checks.due("fiber 1", p.exit(1), "INTERRUPT 0");
    }

    private static void haltAtOnce(boolean value) {
        Program p = new Program();
        int child = value ? p.give(6) : p.fail(6);
        p.start(p.then(p.fork(child), p.sleep(1), p.halt()), 0);
        for (int i = 0; i < 40 && p.desk.count(2) == 0; i++) {
            p.desk.run(1);
        }
        p.desk.run(1);
        Checks.due("behind HALT at work", p.desk.count(6), 0);
        p.desk.run(1);
        Checks.due("HALT", p.exit(0), "0");
        Checks.due("fiber 1", p.exit(1), value ? "6" : "FAIL 6");
        Checks.due("no interrupt came", p.desk.fiber(1, 3), 0);
    }

    private static void haltOfItself() {
        Program p = new Program();
        p.start(p.then(p.halt(), p.print()), 0);
        p.desk.run(2);
        Checks.due("at work", p.desk.count(6), 0);
        Checks.due("it WAITS for", p.desk.fiber(0, 7), 0);
        Checks.due("pending", p.desk.fiber(0, 3), 1);
        p.desk.run(1);
        Checks.due("delivered", p.desk.fiber(0, 3), 2);
        p.runOut();
        Checks.due("its end", p.exit(0), "INTERRUPT 0");
        Checks.due("put out", p.output(), "");
    }

    private static void haltOfItselfMasked() {
        Program p = new Program();
        int e = p.mask(p.then(p.fork(p.give(1)), p.give(0), p.halt(), p.print(), p.fail(4)));
        Checks.due("its end", p.outcome(e, 5), "INTERRUPT 0");
        Checks.due("put out", p.output(), "0");
    }

    private static void haltOfTheMasked() {
        Program p = new Program();
        int child = p.then(p.mask(p.await(2)), p.print());
        p.start(p.then(p.fork(child), p.yielding(), p.halt()), 0);
        Checks.due("both WAIT", p.runOut(), FiberDesk.STUCK);
        Checks.due("pending", p.desk.fiber(1, 3), 1);
        Checks.due("fiber 1 WAITS on", p.desk.fiber(1, 7), 5);
        p.desk.keep(2, 9);
        Checks.due("run", p.runOut(), FiberDesk.DONE);
        Checks.due("put out", p.output(), "");
        Checks.due("fiber 1", p.exit(1), "INTERRUPT 0");
        Checks.due("HALT", p.exit(0), "0");
    }

    private static void haltOfTheInterrupted() {
        Program p = new Program();
        p.start(p.then(p.fork(p.mask(p.await(0))), p.mask(p.await(1)), p.give(1), p.halt()), 0);
        p.runOut();
        p.desk.interrupt(1);
        p.desk.keep(1, 0);
        p.runOut();
        Checks.due("it WAITS for", p.desk.fiber(0, 7), 2);
        p.desk.keep(0, 0);
        p.runOut();
        Checks.due("fiber 1: by whom it came first", p.exit(1), "INTERRUPT -1");
        Checks.due("HALT", p.exit(0), "0");
    }

    private static void haltOfTheNew() {
        Program p = new Program();
        p.start(p.then(p.fork(p.print()), p.halt()), 0);
        p.runOut();
        Checks.due("put out", p.output(), "");
        Checks.due("fiber 1", p.exit(1), "INTERRUPT 0");
        Checks.due("its STEPS", p.desk.fiber(1, 6), 2);
        Checks.due("HALT", p.exit(0), "0");
    }

    /** Fiber 1 WAITS for a promise; 3 JOINs it before 2 does, yet goes on behind it. */
    private static void goOnByNumbers() {
        Program p = new Program();
        int joinOne = p.then(p.give(1), p.join());
        int late = p.then(p.sleep(1), joinOne);
        p.start(p.then(p.fork(p.await(0)), p.fork(late), p.fork(joinOne), p.await(1)), 0);
        p.runOut();
        Checks.due("both WAIT", p.desk.fiber(2, 7) + p.desk.fiber(3, 7), 2);
        p.desk.keep(0, 4);
        p.desk.run(1);
        Checks.due("the QUEUE", p.queue(), "2 3");
        p.runOut();
        Checks.due("fiber 2", p.exit(2), "4");
        Checks.due("fiber 3", p.exit(3), "4");
    }

    /** Fibers 3 and 4 WAIT for 1, by JOIN and by HALT, when 2 ENDs. */
    private static void othersWaitOn() {
        Program p = new Program();
        int one = p.give(1);
        int masked = p.fork(p.mask(p.await(0)));
        int joins = p.fork(p.then(one, p.join()));
        int halts = p.fork(p.then(one, p.halt()));
        p.start(p.then(masked, p.fork(p.await(1)), joins, halts, p.await(2)), 0);
        p.runOut();
        p.desk.keep(1, 9);
        p.runOut();
        Checks.due("fiber 2", p.exit(2), "9");
        Checks.due("fiber 3 WAITS on", p.desk.fiber(3, 7), 1);
        Checks.due("fiber 4 WAITS on", p.desk.fiber(4, 7), 2);
        p.desk.keep(0, 9);
        p.runOut();
        Checks.due("fiber 3", p.exit(3), "INTERRUPT 4");
        Checks.due("fiber 4", p.exit(4), "0");
    }

    private static void childrenAreInterrupted() {
        Program p = new Program();
        int fork = p.fork(p.await(3));
        p.start(p.then(fork, fork, fork, p.await(0)), 0);
        p.runOut();
        p.desk.keep(0, 7);
        p.desk.run(1);
        Checks.due("fiber 0", p.exit(0), "7");
        Checks.due("the QUEUE, by numbers", p.queue(), "1 2 3");
        Checks.due("none WAITS for the promise", p.desk.cell(3, 4), 0);
        p.runOut();
        for (int f = 1; f <= 3; f++) {
            Checks.due("fiber " + f, p.exit(f), "INTERRUPT 0");
        }
    }

    /** Fiber 1 forks 3 and ENDs; 0 and 2 JOIN it: 3 comes last. */
    private static void waitersBeforeChildren() {
        Program p = new Program();
        int parent = p.then(p.sleep(1), p.fork(p.await(3)), p.await(0));
        int joinOne = p.then(p.give(1), p.join());
        p.start(p.then(p.fork(parent), p.fork(joinOne), joinOne), 0);
        p.runOut();
        Checks.due("forked by", p.desk.fiber(3, 4), 1);
        p.desk.keep(0, 5);
        p.desk.run(1);
        Checks.due("the QUEUE", p.queue(), "0 2 3");
    }

    private static void grandchildrenAreNot() {
        Program p = new Program();
        int child = p.ensure(p.then(p.fork(p.await(1)), p.await(2)), p.await(3));
        p.start(p.then(p.fork(child), p.await(0)), 0);
        p.runOut();
        Checks.due("forked by", p.desk.fiber(2, 4), 1);
        p.desk.keep(0, 0);
        p.runOut();
        Checks.due("fiber 1 CLOSES", p.desk.fiber(1, 3), 2);
        Checks.due("none came to fiber 2", p.desk.fiber(2, 3), 0);
        p.desk.keep(3, 0);
        p.runOut();
        Checks.due("fiber 2", p.exit(2), "INTERRUPT 1");
    }

    private static void endedChild() {
        Program p = new Program();
        p.start(p.then(p.fork(p.give(1)), p.fork(p.await(0)), p.await(1)), 0);
        p.runOut();
        p.desk.keep(1, 0);
        p.desk.run(1);
        Checks.due("the QUEUE", p.queue(), "2");
        Checks.due("none came to fiber 1", p.desk.fiber(1, 3), 0);
        Checks.due("fiber 1", p.exit(1), "1");
    }

    private static void maskedChild() {
        Program p = new Program();
        p.start(p.then(p.fork(p.mask(p.await(0))), p.await(1)), 0);
        p.runOut();
        p.desk.keep(1, 0);
        Checks.due("run", p.runOut(), FiberDesk.STUCK);
        Checks.due("pending", p.desk.fiber(1, 3), 1);
        Checks.due("it WAITS on", p.desk.fiber(1, 7), 5);
        p.desk.keep(0, 5);
        p.runOut();
        Checks.due("fiber 1", p.exit(1), "INTERRUPT 0");
    }
}
