/** Promises 4 and 12: SLEEP and the CLOCK. */
public final class ClockTest {
    public static void main(String[] args) {
        Checks.edge(4, "SLEEP n: v, when the CLOCK is n more", ClockTest::sleeps);
        Checks.edge(4, "SLEEP 1", () -> sleepsUntil(1, 1));
        Checks.edge(4, "SLEEP n: at once if n is below 1: 0", () -> atOnce(0));
        Checks.edge(4, "SLEEP n: at once if n is below 1: -1", () -> atOnce(-1));
        Checks.edge(4, "SLEEP n: at once if n is below 1: the smallest", () -> atOnce(Integer.MIN_VALUE));
        Checks.edge(4, "SLEEP 999", () -> sleepsUntil(999, 999));
        Checks.edge(4, "SLEEP n: 1000", () -> sleepsUntil(1000, 1000));
        Checks.edge(4, "SLEEP n: 1000 if n is above that: 1001", () -> sleepsUntil(1001, 1000));
        Checks.edge(4, "SLEEP n: 1000 if n is above that: the largest", () -> sleepsUntil(Integer.MAX_VALUE, 1000));
        Checks.edge(4, "SLEEP n: n more than the CLOCK was when it was begun", ClockTest::nMore);
        Checks.edge(12, "the CLOCK stands as long as one is in the QUEUE", ClockTest::standsForTheReady);
        Checks.edge(12, "the CLOCK stands until a TURN is to begin", ClockTest::standsUntilATurn);
        Checks.edge(12, "the CLOCK becomes the least time", ClockTest::leastTime);
        Checks.edge(12, "those that SLEEP until then are READY, by numbers", ClockTest::byNumbers);
        Checks.edge(12, "those that SLEEP longer SLEEP on", ClockTest::othersSleepOn);
        Checks.edge(12, "none SLEEPs: no STEP, no TURN, the CLOCK stands", ClockTest::noneSleeps);
        Checks.edge(12, "one that was interrupted does not SLEEP", ClockTest::interruptedSleeper);
        Checks.edge(12, "one that is MASKED SLEEPs on, interrupted", ClockTest::maskedSleeper);
        Checks.finish();
    }

    private static void sleeps() {
        Program p = new Program();
        p.start(p.sleep(5), 9);
        p.desk.run(1);
        Checks.due("it WAITS for", p.desk.fiber(0, 7), 4);
        Checks.due("the QUEUE", p.queue(), "");
        p.desk.run(1);
        Checks.due("v", p.exit(0), "9");
        Checks.due("the CLOCK", p.desk.count(2), 5);
        Checks.due("TURNS", p.desk.count(5), 2);
    }

    private static void sleepsUntil(int n, int clock) {
        Program p = new Program();
        p.start(p.sleep(n), 4);
        p.desk.run(1);
        Checks.due("it WAITS for", p.desk.fiber(0, 7), 4);
        Checks.due("the CLOCK", p.desk.count(2), 0);
        p.runOut();
        Checks.due("the CLOCK then", p.desk.count(2), clock);
        Checks.due("v", p.exit(0), "4");
    }

    private static void atOnce(int n) {
        Program p = new Program();
        p.start(p.sleep(n), 4);
        p.desk.run(1);
        Checks.due("it WAITS for", p.desk.fiber(0, 7), 0);
        Checks.due("at work", p.desk.count(6), 0);
        p.desk.run(1);
        Checks.due("v", p.exit(0), "4");
        Checks.due("the CLOCK", p.desk.count(2), 0);
        Checks.due("TURNS", p.desk.count(5), 1);
    }

    private static void nMore() {
        Program p = new Program();
        int sleep = p.sleep(3);
        Checks.due("two SLEEPs", p.outcome(p.then(sleep, sleep), 9), "9");
        Checks.due("the CLOCK", p.desk.count(2), 6);
        int far = p.sleep(2000);
        Checks.due("two long ones", p.outcome(p.then(sleep, far, far), 9), "9");
        Checks.due("the CLOCK", p.desk.count(2), 2003);
    }

    private static void standsForTheReady() {
        Program p = new Program();
        int y = p.yielding();
        p.start(p.then(p.fork(p.sleep(1)), y, y, y), 1);
        for (int i = 0; i < 40 && p.desk.fiber(0, 0) == 0; i++) {
            Checks.due("the CLOCK", p.desk.count(2), 0);
            p.desk.run(1);
        }
        Checks.due("the CLOCK at the end of fiber 0", p.desk.count(2), 0);
    }

    private static void standsUntilATurn() {
        Program p = new Program();
        p.start(p.sleep(5), 1);
        Checks.due("run(1)", p.desk.run(1), FiberDesk.RUNNING);
        Checks.due("the CLOCK", p.desk.count(2), 0);
        Checks.due("it SLEEPs", p.desk.fiber(0, 7), 4);
        p.desk.keep(0, 0);
        Checks.due("the CLOCK behind keep", p.desk.count(2), 0);
        p.desk.run(1);
        Checks.due("the CLOCK with the next STEP", p.desk.count(2), 5);
    }

    /** Fibers 1, 2 and 3 SLEEP until 7, 4 and 9. */
    private static Program threeSleepers() {
        Program p = new Program();
        p.start(p.then(p.fork(p.sleep(7)), p.fork(p.sleep(4)), p.fork(p.sleep(9)), p.await(0)), 0);
        for (int i = 0; i < 40 && p.desk.fiber(3, 7) != 4; i++) {
            p.desk.run(1);
        }
        return p;
    }

    private static void leastTime() {
        Program p = threeSleepers();
        StringBuilder clocks = new StringBuilder();
        for (int i = 0; i < 3; i++) {
            p.desk.run(1);
            clocks.append(p.desk.count(2)).append(' ');
        }
        Checks.due("the CLOCK behind three STEPS", clocks.toString(), "4 7 9 ");
        Checks.due("run", p.desk.run(20), FiberDesk.STUCK);
        Checks.due("the CLOCK", p.desk.count(2), 9);
    }

    /** Fiber 2 begins to SLEEP until 4 later than 3 does. */
    private static void byNumbers() {
        Program p = new Program();
        int two = p.sleep(2);
        int four = p.fork(p.sleep(4));
        p.start(p.then(four, p.fork(p.then(two, two)), four, p.fork(p.sleep(9)), p.await(0)), 0);
        for (int i = 0; i < 60 && p.desk.count(2) < 4; i++) {
            p.desk.run(1);
        }
        Checks.due("the CLOCK", p.desk.count(2), 4);
        Checks.due("fiber 1 was first", p.exit(1), "0");
        Checks.due("the QUEUE", p.queue(), "2 3");
        Checks.due("their WAITing", p.desk.fiber(2, 7) + p.desk.fiber(3, 7), 0);
    }

    private static void othersSleepOn() {
        Program p = threeSleepers();
        p.desk.run(1);
        Checks.due("the CLOCK", p.desk.count(2), 4);
        Checks.due("fiber 1", p.desk.fiber(1, 7), 4);
        Checks.due("fiber 2", p.exit(2), "1");
        Checks.due("fiber 3", p.desk.fiber(3, 7), 4);
    }

    private static void noneSleeps() {
        Program p = new Program();
        p.start(p.then(p.sleep(3), p.await(0)), 0);
        p.runOut();
        int steps = p.desk.count(3);
        Checks.due("run(20)", p.desk.run(20), FiberDesk.STUCK);
        Checks.due("STEPS", p.desk.count(3), steps);
        Checks.due("TURNS", p.desk.count(5), 2);
        Checks.due("the CLOCK", p.desk.count(2), 3);
    }

    private static void interruptedSleeper() {
        Program p = new Program();
        p.start(p.sleep(50), 0);
        p.desk.run(1);
        p.desk.interrupt(0);
        Checks.due("the QUEUE", p.queue(), "0");
        p.runOut();
        Checks.due("its end", p.exit(0), "INTERRUPT -1");
        Checks.due("the CLOCK", p.desk.count(2), 0);
    }

    private static void maskedSleeper() {
        Program p = new Program();
        p.start(p.mask(p.sleep(50)), 0);
        p.desk.run(2);
        p.desk.interrupt(0);
        Checks.due("it SLEEPs on", p.desk.fiber(0, 7), 4);
        p.runOut();
        Checks.due("its end", p.exit(0), "INTERRUPT -1");
        Checks.due("the CLOCK", p.desk.count(2), 50);
    }
}
