/** Promise 4: RACE. */
public final class RaceTest {
    public static void main(String[] args) {
        Checks.edge(4, "RACE X Y: two new fibers, as by FORK, with v", RaceTest::twoFibers);
        Checks.edge(4, "RACE X Y: not MASKED, though the one that races is", RaceTest::notMasked);
        Checks.edge(4, "RACE X Y: fibers nine and ten", RaceTest::roomForTwo);
        Checks.edge(4, "RACE X Y: DIE -1 if there would be 11, and none is made", () -> noRoom(8));
        Checks.edge(4, "RACE X Y: DIE -1 if there would be 12, and none is made", () -> noRoom(9));
        Checks.edge(4, "RACE X Y: the VALUE of the one that ENDED first", RaceTest::firstValue);
        Checks.edge(4, "RACE X Y: both at one time, X ENDED first", RaceTest::bothAtOnce);
        Checks.edge(4, "RACE X Y: the other one is MASKED, and late", RaceTest::maskedLoser);
        Checks.edge(4, "RACE X Y: a CAUSE first, then a VALUE", RaceTest::valueBehindACause);
        Checks.edge(4, "RACE X Y: BOTH, the CAUSE of X first", RaceTest::bothCauses);
        Checks.edge(4, "RACE X Y: WAITS until both have ENDED", RaceTest::waitsForBoth);
        Checks.edge(4, "RACE X Y: a VALUE interrupts the other one, by the fiber that WAITS", RaceTest::loserIsInterrupted);
        Checks.edge(4, "RACE X Y: a CAUSE does not interrupt the other one", RaceTest::causeInterruptsNobody);
        Checks.edge(4, "RACE X Y: the other one JOINs the first", RaceTest::loserJoinsTheWinner);
        Checks.edge(4, "RACE X Y: interrupted, it WAITS no more", RaceTest::interruptedRace);
        Checks.edge(4, "RACE X Y: interrupted, the end of X interrupts nobody", RaceTest::abandonedFibers);
        Checks.edge(4, "RACE X Y: those that it raced are interrupted when it ENDs", RaceTest::racedAreInterrupted);
        Checks.edge(4, "RACE X Y: MASKED, interrupted, it WAITS on", RaceTest::maskedRace);
        Checks.edge(4, "RACE X Y: the end of another fiber", RaceTest::endOfAnother);
        Checks.edge(4, "RACE X Y: a RACE in a RACE", RaceTest::raceInARace);
        Checks.finish();
    }

    private static void twoFibers() {
        Program p = new Program();
        p.start(p.race(p.input(1), p.then(p.print(), p.await(0))), 7);
        p.desk.run(1);
        Checks.due("fibers", p.desk.count(1), 3);
        Checks.due("the QUEUE", p.queue(), "1 2");
        Checks.due("raced by", p.desk.fiber(1, 4) + p.desk.fiber(2, 4), 0);
        Checks.due("it WAITS for", p.desk.fiber(0, 7), 3);
        p.runOut();
        Checks.due("X with v", p.exit(1), "8");
        Program q = new Program();
        Checks.due("Y with v", q.outcome(q.race(q.fail(1), q.input(2)), 7), "9");
    }

    private static void notMasked() {
        Program p = new Program();
        p.start(p.mask(p.race(p.yielding(), p.yielding())), 7);
        p.desk.run(2);
        Checks.due("fiber 0", p.desk.fiber(0, 1), 1);
        Checks.due("fibers 1 and 2", p.desk.fiber(1, 1) + p.desk.fiber(2, 1), 0);
    }

    private static int forks(Program p, int forks) {
        int fork = p.fork(p.await(0));
        int all = fork;
        for (int i = 1; i < forks; i++) {
            all = p.then(all, fork);
        }
        return all;
    }

    private static void roomForTwo() {
        Program p = new Program();
        Checks.due("RACE", p.outcome(p.then(forks(p, 7), p.race(p.input(10), p.give(2))), 0), "17");
        Checks.due("fibers", p.desk.count(1), 10);
    }

    private static void noRoom(int forks) {
        Program p = new Program();
        p.start(p.mask(p.then(forks(p, forks), p.race(p.print(), p.print()))), 0);
        p.runOut();
        Checks.due("RACE", p.exit(0), "DIE -1");
        Checks.due("fibers", p.desk.count(1), forks + 1);
        Checks.due("put out", p.output(), "");
    }

    private static void firstValue() {
        Program p = new Program();
        int slow = p.then(p.sleep(5), p.input(1));
        int quick = p.then(p.sleep(2), p.input(2));
        Checks.due("X is quicker", p.outcome(p.race(quick, slow), 10), "12");
        Checks.due("the CLOCK", p.desk.count(2), 2);
        Checks.due("Y is quicker", p.outcome(p.race(slow, quick), 10), "12");
        Checks.due("the CLOCK", p.desk.count(2), 2);
    }

    private static void bothAtOnce() {
        Program p = new Program();
        Checks.due("RACE", p.outcome(p.race(p.give(1), p.give(2)), 0), "1");
        Checks.due("Y, interrupted in the QUEUE", p.exit(2), "INTERRUPT 0");
        int sleep = p.sleep(3);
        Checks.due("both SLEEP", p.outcome(p.race(p.then(sleep, p.give(1)), p.then(sleep, p.give(2))), 0), "1");
    }

    private static void maskedLoser() {
        Program p = new Program();
        int late = p.mask(p.then(p.await(0), p.give(3)));
        p.start(p.race(late, p.give(4)), 0);
        p.runOut();
        Checks.due("fiber 2", p.exit(2), "4");
        Checks.due("pending", p.desk.fiber(1, 3), 1);
        p.desk.keep(0, 0);
        p.runOut();
        Checks.due("fiber 1, MASKED, is interrupted at its end", p.exit(1), "INTERRUPT 0");
        Checks.due("RACE", p.exit(0), "4");
    }

    private static void valueBehindACause() {
        Program p = new Program();
        int late = p.then(p.sleep(2), p.give(5));
        Checks.due("X fails", p.outcome(p.race(p.fail(1), late), 0), "5");
        Checks.due("Y fails", p.outcome(p.race(late, p.fail(1)), 0), "5");
        Checks.due("X dies", p.outcome(p.race(p.die(1), p.give(6)), 0), "6");
    }

    private static void bothCauses() {
        Program p = new Program();
        int late = p.then(p.sleep(2), p.die(5));
        Checks.due("X ENDED first", p.outcome(p.race(p.fail(1), late), 0), "BOTH FAIL 1 DIE 5");
        Checks.due("X ENDED last", p.outcome(p.race(late, p.fail(1)), 0), "BOTH DIE 5 FAIL 1");
    }

    private static void waitsForBoth() {
        Program p = new Program();
        p.start(p.race(p.sleep(3), p.ensure(p.await(0), p.sleep(4))), 7);
        p.desk.run(6);
        Checks.due("fiber 1", p.exit(1), "7");
        Checks.due("it WAITS on", p.desk.fiber(0, 7), 3);
        p.runOut();
        Checks.due("RACE", p.exit(0), "7");
        Checks.due("the CLOCK, behind the CLOSER", p.desk.count(2), 7);
        p.start(p.race(p.fail(3), p.await(0)), 7);
        Checks.due("one has failed, one WAITS", p.runOut(), FiberDesk.STUCK);
        Checks.due("it WAITS on", p.desk.fiber(0, 7), 3);
    }

    private static void loserIsInterrupted() {
        Program p = new Program();
        p.start(p.race(p.await(0), p.await(1)), 7);
        p.runOut();
        p.desk.keep(1, 6);
        p.desk.run(1);
        Checks.due("fiber 2", p.exit(2), "6");
        Checks.due("fiber 1 is READY", p.queue(), "1");
        Checks.due("pending", p.desk.fiber(1, 3), 1);
        p.runOut();
        Checks.due("fiber 1", p.exit(1), "INTERRUPT 0");
        Checks.due("RACE", p.exit(0), "6");
    }

    private static void causeInterruptsNobody() {
        Program p = new Program();
        p.start(p.race(p.fail(1), p.await(0)), 0);
        p.runOut();
        Checks.due("fiber 1", p.exit(1), "FAIL 1");
        Checks.due("none came to fiber 2", p.desk.fiber(2, 3), 0);
        Checks.due("fiber 2 WAITS on", p.desk.fiber(2, 7), 5);
        p.desk.keep(0, 9);
        p.runOut();
        Checks.due("RACE", p.exit(0), "9");
        Checks.due("none came to fiber 1", p.desk.fiber(1, 3), 0);
    }

    /** The end of fiber 1 interrupts 2, which WAITS for it: it stands in the QUEUE once. */
    private static void loserJoinsTheWinner() {
        Program p = new Program();
        int joinOne = p.then(p.give(1), p.join());
        p.start(p.race(p.sleep(1), joinOne), 7);
        p.desk.run(7);
        Checks.due("fiber 1", p.exit(1), "7");
        Checks.due("the QUEUE", p.queue(), "2");
        p.runOut();
        Checks.due("fiber 2", p.exit(2), "INTERRUPT 0");
        p.start(p.race(p.sleep(1), p.mask(joinOne)), 7);
        p.runOut();
        Checks.due("fiber 2, MASKED", p.exit(2), "INTERRUPT 0");
        Checks.due("RACE", p.exit(0), "7");
    }

    private static Program interruptedInARace() {
        Program p = new Program();
        p.start(p.ensure(p.race(p.await(0), p.await(1)), p.await(2)), 0);
        p.runOut();
        p.desk.interrupt(0);
        return p;
    }

    private static void interruptedRace() {
        Program p = interruptedInARace();
        Checks.due("the QUEUE", p.queue(), "0");
        Checks.due("fibers 1 and 2 WAIT on", p.desk.fiber(1, 7) + p.desk.fiber(2, 7), 10);
        p.runOut();
        Checks.due("it CLOSES", p.desk.cell(2, 4), 1);
        Checks.due("delivered", p.desk.fiber(0, 3), 2);
    }

    private static void abandonedFibers() {
        Program p = interruptedInARace();
        p.runOut();
        p.desk.keep(0, 5);
        p.runOut();
        Checks.due("fiber 1", p.exit(1), "5");
        Checks.due("none came to fiber 2", p.desk.fiber(2, 3), 0);
        Checks.due("fiber 0 WAITS on", p.desk.fiber(0, 7), 5);
        p.desk.keep(1, 6);
        p.runOut();
        Checks.due("fiber 2: its VALUE too", p.exit(2), "6");
        Checks.due("fiber 0 WAITS on", p.desk.fiber(0, 7), 5);
    }

    private static void racedAreInterrupted() {
        Program p = interruptedInARace();
        p.runOut();
        p.desk.keep(2, 5);
        p.desk.run(2);
        Checks.due("fiber 0", p.exit(0), "INTERRUPT -1");
        Checks.due("the QUEUE, by numbers", p.queue(), "1 2");
        p.runOut();
        Checks.due("fiber 1", p.exit(1), "INTERRUPT 0");
        Checks.due("fiber 2", p.exit(2), "INTERRUPT 0");
    }

    private static void maskedRace() {
        Program p = new Program();
        p.start(p.mask(p.then(p.race(p.await(0), p.await(1)), p.print())), 0);
        p.runOut();
        p.desk.interrupt(0);
        Checks.due("it WAITS for", p.desk.fiber(0, 7), 3);
        p.desk.keep(1, 6);
        p.runOut();
        Checks.due("put out", p.output(), "6");
        Checks.due("its end", p.exit(0), "INTERRUPT -1");
    }

    private static void endOfAnother() {
        Program p = new Program();
        int x = p.then(p.fork(p.give(5)), p.await(0));
        p.start(p.race(x, p.await(1)), 0);
        p.runOut();
        Checks.due("fiber 3", p.exit(3), "5");
        Checks.due("RACE WAITS on", p.desk.fiber(0, 7), 3);
        Checks.due("none came to fiber 1", p.desk.fiber(1, 3), 0);
        Checks.due("none came to fiber 2", p.desk.fiber(2, 3), 0);
    }

    private static void raceInARace() {
        Program p = new Program();
        int inner = p.race(p.fail(1), p.die(2));
        Checks.due("BOTH of BOTH", p.outcome(p.race(inner, inner), 0), "BOTH BOTH FAIL 1 DIE 2 BOTH FAIL 1 DIE 2");
        int waits = p.race(p.await(0), p.await(1));
        p.start(p.race(waits, p.then(p.sleep(1), p.give(3))), 0);
        p.runOut();
        Checks.due("RACE", p.exit(0), "3");
        Checks.due("the inner one", p.exit(1), "INTERRUPT 0");
        Checks.due("what that raced", p.exit(3), "INTERRUPT 1");
    }
}
