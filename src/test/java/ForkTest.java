/** Promises 4 and 7: FORK, JOIN and HALT, and what happens when a fiber has ended. */
public final class ForkTest {
    public static void main(String[] args) {
        forkMakesAFiber();
        forkIsNotMasked();
        tenFibers();
        joinGivesTheExit();
        joinWaits();
        joinOfItselfIsStuck();
        haltInterruptsAndWaits();
        haltOfItself();
        haltOfTheMasked();
        endingWakesByNumbers();
        endingWakesNobodyElse();
        endingInterruptsChildren();
        Checks.finish();
    }

    private static void forkMakesAFiber() {
        Program p = new Program();
        p.start(p.fork(p.input(3)), 4);
        p.desk.run(1);
        Checks.due("fibers", p.desk.count(1), 2);
        Checks.due("parent", p.desk.fiber(1, 4), 0);
        Checks.due("ready", p.queue(), "1");
        Checks.due("the forking one is at work", p.desk.count(6), 0);
        p.desk.run(1);
        Checks.due("its number", p.exit(0), "1");
        Checks.due("interrupted by its parent's end", p.desk.fiber(1, 3), 1);
        p.runOut();
        Checks.due("its end", p.exit(1), "INTERRUPT 0");
        Checks.due("X has the input", p.outcome(p.then(p.fork(p.input(3)), p.join()), 4), "7");
    }

    private static void forkIsNotMasked() {
        Program p = new Program();
        p.start(p.mask(p.fork(p.yielding())), 4);
        p.desk.run(2);
        Checks.due("the parent is masked", p.desk.fiber(0, 1), 1);
        Checks.due("the child is not", p.desk.fiber(1, 1), 0);
        Checks.due("it has no frames", p.desk.fiber(1, 2), 0);
    }

    private static void tenFibers() {
        Program p = new Program();
        int fork = p.fork(p.print());
        int nine = p.then(fork, fork, fork, fork, fork, fork, fork, fork, fork);
        Checks.due("nine forks", p.outcome(nine, 0), "9");
        Checks.due("fibers", p.desk.count(1), 10);
        Checks.due("a tenth fork", p.outcome(p.then(nine, fork), 0), "DIE -1");
        Checks.due("fibers", p.desk.count(1), 10);
    }

    private static void joinGivesTheExit() {
        Program p = new Program();
        int join = p.join();
        Checks.due("a value", p.outcome(p.then(p.fork(p.give(6)), join), 0), "6");
        int two = p.ensure(p.fail(1), p.die(2));
        Checks.due("a cause", p.outcome(p.then(p.fork(two), join), 0), "THEN FAIL 1 DIE 2");
        Checks.due("the child has it too", p.exit(1), "THEN FAIL 1 DIE 2");
        int late = p.then(p.fork(p.give(6)), p.sleep(1), join);
        Checks.due("of one that has ended, at once", p.outcome(late, 0), "6");
        Checks.due("of none", p.outcome(p.then(p.give(1), join), 0), "DIE -2");
        Checks.due("of -1", p.outcome(p.then(p.give(-1), join), 0), "DIE -2");
        Checks.due("of 10", p.outcome(p.then(p.give(10), join), 0), "DIE -2");
        int failed = p.fold(p.then(p.fork(p.fail(5)), join), p.give(0), p.input(20));
        Checks.due("a FAIL that was joined is folded", p.outcome(failed, 0), "25");
    }

    private static void joinWaits() {
        Program p = new Program();
        p.start(p.then(p.fork(p.await(0)), p.join()), 0);
        Checks.due("stuck", p.runOut(), FiberDesk.STUCK);
        Checks.due("waits for JOIN", p.desk.fiber(0, 7), 1);
        p.desk.keep(0, 8);
        Checks.due("done", p.runOut(), FiberDesk.DONE);
        Checks.due("its value", p.exit(0), "8");
        p.start(p.then(p.fork(p.await(0)), p.join()), 0);
        p.runOut();
        p.desk.interrupt(0);
        Checks.due("waits no more", p.desk.fiber(0, 7), 0);
        p.desk.keep(0, 8);
        Checks.due("the queue", p.queue(), "0 1");
        p.runOut();
        Checks.due("interrupted in JOIN", p.exit(0), "INTERRUPT -1");
    }

    private static void joinOfItselfIsStuck() {
        Program p = new Program();
        p.start(p.join(), 0);
        Checks.due("stuck", p.runOut(), FiberDesk.STUCK);
        Checks.due("steps", p.desk.count(3), 1);
        p.desk.interrupt(0);
        Checks.due("done", p.runOut(), FiberDesk.DONE);
        Checks.due("its end", p.exit(0), "INTERRUPT -1");
    }

    private static void haltInterruptsAndWaits() {
        Program p = new Program();
        int slow = p.ensure(p.await(0), p.sleep(3));
        int e = p.then(p.fork(slow), p.yielding(), p.halt());
        p.start(e, 0);
        p.desk.run(20);
        Checks.due("HALT gives 0", p.exit(0), "0");
        Checks.due("behind the closers", p.desk.count(2), 3);
        Checks.due("by whom", p.exit(1), "INTERRUPT 0");
        Program q = new Program();
        int halt = q.halt();
        int ended = q.then(q.fork(q.give(6)), q.sleep(1), q.give(1), halt);
        Checks.due("HALT of one that has ended", q.outcome(ended, 0), "0");
        Checks.due("it keeps its exit", q.exit(1), "6");
        Checks.due("its interrupt", q.desk.fiber(1, 3), 0);
        Checks.due("HALT of none", q.outcome(q.then(q.give(1), halt), 0), "DIE -2");
        Checks.due("HALT of -1", q.outcome(q.then(q.give(-1), halt), 0), "DIE -2");
        q.start(q.then(q.fork(q.mask(q.await(0))), q.yielding(), halt), 0);
        q.runOut();
        Checks.due("waits for HALT", q.desk.fiber(0, 7), 2);
        Checks.due("an earlier interrupt stays", q.desk.interrupt(1), true);
        q.desk.keep(0, 1);
        q.runOut();
        Checks.due("by whom it came first", q.exit(1), "INTERRUPT 0");
    }

    private static void haltOfItself() {
        Program p = new Program();
        p.start(p.halt(), 0);
        p.desk.run(1);
        Checks.due("it does not wait", p.desk.fiber(0, 0), 0);
        Checks.due("pending", p.desk.fiber(0, 3), 1);
        p.runOut();
        Checks.due("its end", p.exit(0), "INTERRUPT 0");
        int masked = p.mask(p.then(p.halt(), p.print(), p.fail(4)));
        Checks.due("masked", p.outcome(masked, 0), "INTERRUPT 0");
        Checks.due("it goes on with 0", p.output(), "0");
        Checks.due("then it is delivered", p.desk.fiber(0, 3), 2);
    }

    private static void haltOfTheMasked() {
        Program p = new Program();
        int child = p.then(p.mask(p.await(2)), p.print());
        p.start(p.then(p.fork(child), p.yielding(), p.halt()), 0);
        Checks.due("both wait", p.runOut(), FiberDesk.STUCK);
        Checks.due("pending", p.desk.fiber(1, 3), 1);
        p.desk.keep(2, 9);
        Checks.due("done", p.runOut(), FiberDesk.DONE);
        Checks.due("nothing put out", p.output(), "");
        Checks.due("child", p.exit(1), "INTERRUPT 0");
        Checks.due("parent", p.exit(0), "0");
    }

    /** Fiber 1 waits for a promise; 3 joins it before 2 does, yet goes on behind it. */
    private static void endingWakesByNumbers() {
        Program p = new Program();
        int joinOne = p.then(p.give(1), p.join());
        int late = p.then(p.sleep(1), joinOne);
        int e = p.then(p.fork(p.await(0)), p.fork(late), p.fork(joinOne), p.await(1));
        p.start(e, 0);
        p.runOut();
        Checks.due("all wait", p.desk.fiber(2, 7) + p.desk.fiber(3, 7), 2);
        p.desk.keep(0, 4);
        p.desk.run(1);
        Checks.due("by numbers", p.queue(), "2 3");
        p.runOut();
        Checks.due("value of 2", p.exit(2), "4");
        Checks.due("value of 3", p.exit(3), "4");
    }

    /** Fibers 3 and 4 wait for 1, by JOIN and by HALT, when 2 ends. */
    private static void endingWakesNobodyElse() {
        Program p = new Program();
        int one = p.give(1);
        int masked = p.fork(p.mask(p.await(0)));
        int e = p.then(masked, p.fork(p.await(1)), p.fork(p.then(one, p.join())), p.fork(p.then(one, p.halt())), p.await(2));
        p.start(e, 0);
        p.runOut();
        p.desk.keep(1, 9);
        p.runOut();
        Checks.due("2 has ended", p.exit(2), "9");
        Checks.due("3 waits on", p.desk.fiber(3, 7), 1);
        Checks.due("4 waits on", p.desk.fiber(4, 7), 2);
        p.desk.keep(0, 9);
        p.runOut();
        Checks.due("3", p.exit(3), "INTERRUPT 4");
        Checks.due("4", p.exit(4), "0");
    }

    private static void endingInterruptsChildren() {
        Program p = new Program();
        int grandchild = p.fork(p.await(1));
        int child = p.then(p.sleep(1), grandchild, p.await(2));
        p.start(p.then(p.fork(child), p.fork(p.await(3)), p.fork(p.give(1)), p.await(0)), 0);
        p.runOut();
        Checks.due("fibers", p.desk.count(1), 5);
        Checks.due("parent of 4", p.desk.fiber(4, 4), 1);
        p.desk.keep(0, 0);
        p.desk.run(1);
        Checks.due("0 has ended", p.exit(0), "0");
        Checks.due("1 and 2 are ready", p.queue(), "1 2");
        Checks.due("the grandchild is not touched yet", p.desk.fiber(4, 3), 0);
        Checks.due("the ended child neither", p.desk.fiber(3, 3), 0);
        p.runOut();
        Checks.due("1", p.exit(1), "INTERRUPT 0");
        Checks.due("2", p.exit(2), "INTERRUPT 0");
        Checks.due("3", p.exit(3), "1");
        Checks.due("4", p.exit(4), "INTERRUPT 1");
    }
}
