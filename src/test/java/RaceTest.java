/** Promise 4: RACE. */
public final class RaceTest {
    public static void main(String[] args) {
        firstValueWins();
        causesLoseToValues();
        bothCauses();
        needsRoomForTwo();
        losersAreInterrupted();
        interruptedRaceLeavesItsFibers();
        loserThatJoinsTheWinner();
        endOfAnotherIsNoMatter();
        Checks.finish();
    }

    private static void firstValueWins() {
        Program p = new Program();
        int slow = p.then(p.sleep(5), p.input(1));
        int quick = p.then(p.sleep(2), p.input(2));
        Checks.due("X is quicker", p.outcome(p.race(quick, slow), 10), "12");
        Checks.due("the clock", p.desk.count(2), 2);
        Checks.due("Y is quicker", p.outcome(p.race(slow, quick), 10), "12");
        Checks.due("the clock", p.desk.count(2), 2);
        Checks.due("both at once: X ended first", p.outcome(p.race(p.give(1), p.give(2)), 0), "1");
        Checks.due("Y was interrupted in the queue", p.exit(2), "INTERRUPT 0");
        int masked = p.mask(p.then(p.yielding(), p.give(3)));
        Checks.due("a loser that is masked", p.outcome(p.race(masked, p.give(4)), 0), "4");
        Checks.due("ends as interrupted too", p.exit(1), "INTERRUPT 0");
    }

    private static void causesLoseToValues() {
        Program p = new Program();
        int late = p.then(p.sleep(2), p.give(5));
        Checks.due("X fails, Y is late", p.outcome(p.race(p.fail(1), late), 0), "5");
        Checks.due("Y fails, X is late", p.outcome(p.race(late, p.fail(1)), 0), "5");
        Checks.due("the one that failed is not interrupted", p.desk.fiber(2, 3), 0);
        Checks.due("a cause does not interrupt the other", p.desk.fiber(1, 3), 0);
    }

    private static void bothCauses() {
        Program p = new Program();
        int late = p.then(p.sleep(2), p.die(5));
        Checks.due("X first", p.outcome(p.race(p.fail(1), late), 0), "BOTH FAIL 1 DIE 5");
        Checks.due("X first, though it is late", p.outcome(p.race(late, p.fail(1)), 0), "BOTH DIE 5 FAIL 1");
        int folded = p.fold(p.race(p.fail(1), p.fail(1)), p.give(0), p.give(0));
        Checks.due("BOTH is not FAIL alone", p.outcome(folded, 0), "BOTH FAIL 1 FAIL 1");
    }

    private static void needsRoomForTwo() {
        Program p = new Program();
        int fork = p.fork(p.give(0));
        int race = p.race(p.give(1), p.give(2));
        int seven = p.then(fork, fork, fork, fork, fork, fork, fork);
        Checks.due("8 fibers and 2", p.outcome(p.then(seven, race), 0), "1");
        Checks.due("fibers", p.desk.count(1), 10);
        Checks.due("9 fibers and 2", p.outcome(p.then(seven, fork, race), 0), "DIE -1");
        Checks.due("none is made", p.desk.count(1), 9);
    }

    private static void losersAreInterrupted() {
        Program p = new Program();
        p.start(p.race(p.sleep(3), p.ensure(p.await(0), p.sleep(4))), 7);
        p.desk.run(1);
        Checks.due("two fibers", p.queue(), "1 2");
        Checks.due("parents", p.desk.fiber(1, 4) + p.desk.fiber(2, 4), 0);
        Checks.due("waits for RACE", p.desk.fiber(0, 7), 3);
        p.desk.run(4);
        Checks.due("fiber 1 has ended", p.exit(1), "7");
        Checks.due("the loser is ready", p.queue(), "2");
        Checks.due("the race waits on", p.desk.fiber(0, 7), 3);
        p.runOut();
        Checks.due("by the one that waits", p.exit(2), "INTERRUPT 0");
        Checks.due("the race", p.exit(0), "7");
        Checks.due("it waited for the closer", p.desk.count(2), 7);
    }

    private static void interruptedRaceLeavesItsFibers() {
        Program p = new Program();
        int race = p.race(p.await(0), p.await(1));
        p.start(p.ensure(race, p.await(2)), 0);
        p.runOut();
        p.desk.interrupt(0);
        p.runOut();
        Checks.due("it closes", p.desk.cell(2, 4), 1);
        p.desk.keep(0, 5);
        p.runOut();
        Checks.due("fiber 1 ends with no race that waits", p.exit(1), "5");
        Checks.due("so 2 is not interrupted", p.desk.fiber(2, 3), 0);
        p.desk.keep(2, 5);
        p.runOut();
        Checks.due("the race", p.exit(0), "INTERRUPT -1");
        Checks.due("then 2 is", p.exit(2), "INTERRUPT 0");
    }

    /** The end of fiber 1 interrupts 2, which waits for it: it stands in the queue once. */
    private static void loserThatJoinsTheWinner() {
        Program p = new Program();
        int joinOne = p.then(p.give(1), p.join());
        p.start(p.race(p.sleep(1), joinOne), 7);
        p.desk.run(7);
        Checks.due("1 has ended", p.exit(1), "7");
        Checks.due("2 is ready, once", p.queue(), "2");
        p.runOut();
        Checks.due("2", p.exit(2), "INTERRUPT 0");
        p.start(p.race(p.sleep(1), p.mask(joinOne)), 7);
        p.runOut();
        Checks.due("masked", p.exit(2), "INTERRUPT 0");
        Checks.due("the race", p.exit(0), "7");
    }

    private static void endOfAnotherIsNoMatter() {
        Program p = new Program();
        int x = p.then(p.fork(p.give(5)), p.await(0));
        p.start(p.race(x, p.await(1)), 0);
        p.runOut();
        Checks.due("the fork has ended", p.exit(3), "5");
        Checks.due("the race waits on", p.desk.fiber(0, 7), 3);
        Checks.due("X is not interrupted", p.desk.fiber(1, 3), 0);
        Checks.due("Y is not interrupted", p.desk.fiber(2, 3), 0);
        p.desk.keep(1, 6);
        p.runOut();
        Checks.due("the race", p.exit(0), "6");
        Checks.due("X", p.exit(1), "INTERRUPT 0");
    }
}
