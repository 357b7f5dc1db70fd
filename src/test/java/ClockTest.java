/** Promises 4 and 12: SLEEP and the clock. */
public final class ClockTest {
    public static void main(String[] args) {
        sleepGivesItsInput();
        sleepHasBounds();
        clockMovesOnlyForATurn();
        sleepersWakeByNumbers();
        sleepersCanBeInterrupted();
        Checks.finish();
    }

    private static void sleepGivesItsInput() {
        Program p = new Program();
        Checks.due("SLEEP", p.outcome(p.sleep(5), 9), "9");
        Checks.due("the clock", p.desk.count(2), 5);
        int sleep = p.sleep(3);
        Checks.due("SLEEPs follow each other", p.outcome(p.then(sleep, sleep, p.print()), 9), "9");
        Checks.due("the clock", p.desk.count(2), 6);
    }

    private static void sleepHasBounds() {
        Program p = new Program();
        int[] lengths = {Integer.MIN_VALUE, -1, 0, 1, 999, 1000, 1001, Integer.MAX_VALUE};
        int[] clocks = {0, 0, 0, 1, 999, 1000, 1000, 1000};
        for (int i = 0; i < lengths.length; i++) {
            Checks.due("SLEEP " + lengths[i], p.outcome(p.sleep(lengths[i]), 4), "4");
            Checks.due("the clock", p.desk.count(2), clocks[i]);
            Checks.due("turns", p.desk.count(5), clocks[i] == 0 ? 1 : 2);
        }
    }

    private static void clockMovesOnlyForATurn() {
        Program p = new Program();
        p.start(p.sleep(5), 1);
        Checks.due("it sleeps", p.desk.run(1), FiberDesk.RUNNING);
        Checks.due("the clock stands", p.desk.count(2), 0);
        Checks.due("waits for SLEEP", p.desk.fiber(0, 7), 4);
        Checks.due("count(7)", p.desk.count(7), FiberDesk.RUNNING);
        p.desk.run(1);
        Checks.due("the clock", p.desk.count(2), 5);
        p.start(p.then(p.fork(p.sleep(1)), p.yielding(), p.print()), 1);
        Checks.due("start sets it to 0", p.desk.count(2), 0);
        p.desk.run(8);
        Checks.due("it stands while one is ready", p.desk.count(2), 0);
    }

    private static void sleepersWakeByNumbers() {
        Program p = new Program();
        int two = p.sleep(2);
        int e = p.then(p.fork(p.sleep(4)), p.fork(p.then(two, two)), p.fork(p.sleep(4)), p.fork(p.sleep(9)), p.await(0));
        p.start(e, 0);
        for (int i = 0; i < 40 && p.desk.count(2) < 4; i++) {
            p.desk.run(1);
        }
        Checks.due("the clock", p.desk.count(2), 4);
        Checks.due("fiber 1 was first", p.exit(1), "0");
        Checks.due("2 and 3 wait for their turns", p.queue(), "2 3");
        Checks.due("4 sleeps on", p.desk.fiber(4, 7), 4);
        p.runOut();
        Checks.due("the clock", p.desk.count(2), 9);
    }

    private static void sleepersCanBeInterrupted() {
        Program p = new Program();
        p.start(p.sleep(50), 0);
        p.desk.run(1);
        p.desk.interrupt(0);
        Checks.due("ready", p.queue(), "0");
        p.runOut();
        Checks.due("its end", p.exit(0), "INTERRUPT -1");
        Checks.due("the clock", p.desk.count(2), 0);
        p.start(p.mask(p.sleep(50)), 0);
        p.desk.run(2);
        p.desk.interrupt(0);
        Checks.due("masked it sleeps on", p.desk.fiber(0, 7), 4);
        p.runOut();
        Checks.due("its end", p.exit(0), "INTERRUPT -1");
        Checks.due("the clock", p.desk.count(2), 50);
    }
}
