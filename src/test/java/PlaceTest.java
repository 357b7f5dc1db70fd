/** Promises 4 and 11: cells, promises and gates, by GET, SET, AWAIT, KEEP, TAKE and LEAVE. */
public final class PlaceTest {
    public static void main(String[] args) {
        Checks.edge(4, "GET n: its int, at first 0", PlaceTest::gets);
        Checks.edge(4, "SET n: v, which it becomes", PlaceTest::sets);
        Checks.edge(4, "cells 0 to 3 are apart", PlaceTest::cellsAreApart);
        Checks.edge(4, "AWAIT n: WAITS until it is kept", PlaceTest::awaits);
        Checks.edge(4, "AWAIT n: one that is kept, without WAITING", PlaceTest::awaitsTheKept);
        Checks.edge(4, "AWAIT n: one that is kept with 0", PlaceTest::awaitsZero);
        Checks.edge(4, "KEEP n: 1 if it was not kept", PlaceTest::keeps);
        Checks.edge(4, "KEEP n: else 0, its int stays", PlaceTest::keepsTwice);
        Checks.edge(4, "KEEP n: those that WAIT go on, in the order in which they came", PlaceTest::orderOfComing);
        Checks.edge(4, "KEEP n: those of another promise WAIT on", PlaceTest::othersAwaitOn);
        Checks.edge(4, "TAKE n: v, and a permit less", PlaceTest::takes);
        Checks.edge(4, "TAKE n: one permit at first, the second WAITS", PlaceTest::secondTakeWaits);
        Checks.edge(4, "TAKE n: gates 0 to 3 are apart", PlaceTest::gatesAreApart);
        Checks.edge(4, "LEAVE n: none WAITS: one permit more", PlaceTest::leaves);
        Checks.edge(4, "LEAVE n: the first one that WAITS gets it", PlaceTest::firstOneGetsIt);
        Checks.edge(4, "LEAVE n: those of another gate WAIT on", PlaceTest::othersTakeOn);
        Checks.edge(4, "LEAVE n: what was interrupted gets none", PlaceTest::interruptedGetsNone);
        Checks.edge(4, "LEAVE n: the only one that WAITED was interrupted", PlaceTest::onlyOneInterrupted);
        Checks.edge(4, "a permit that was got stays taken", PlaceTest::gotAndInterrupted);
        Checks.edge(4, "MASKED, interrupted, it WAITS on and gets a permit", PlaceTest::maskedTaker);
        Checks.finish();
    }

    private static void gets() {
        Program p = new Program();
        for (int n = 0; n <= 3; n++) {
            Checks.due("GET " + n, p.outcome(p.get(n), 9), "0");
            int e = p.then(p.set(n), p.give(1), p.get(n));
            Checks.due("GET " + n + " behind SET", p.outcome(e, -8), "-8");
            Checks.due("the cell stays", p.desk.cell(n, 0), -8);
        }
    }

    private static void sets() {
        Program p = new Program();
        int set = p.set(1);
        for (int v : new int[] {5, 0, -1, Integer.MIN_VALUE, Integer.MAX_VALUE}) {
            Checks.due("SET", p.outcome(set, v), String.valueOf(v));
            Checks.due("cell 1", p.desk.cell(1, 0), v);
        }
        Checks.due("SET twice", p.outcome(p.then(set, p.input(1), set), 5), "6");
        Checks.due("cell 1", p.desk.cell(1, 0), 6);
    }

    private static void cellsAreApart() {
        for (int n = 0; n <= 3; n++) {
            Program p = new Program();
            p.outcome(p.set(n), 5);
            for (int m = 0; m <= 3; m++) {
                Checks.due("cell " + m, p.desk.cell(m, 0), m == n ? 5 : 0);
            }
        }
    }

    private static void awaits() {
        for (int n = 0; n <= 3; n++) {
            Program p = new Program();
            p.start(p.then(p.fork(p.await(n)), p.sleep(2), p.give(7), p.keep(n), p.sleep(2)), 0);
            for (int i = 0; i < 40 && p.desk.count(2) == 0; i++) {
                Checks.due("promise " + n, p.desk.cell(n, 1), 0);
                p.desk.run(1);
            }
            Checks.due("WAIT for promise " + n, p.desk.cell(n, 4), 1);
            p.runOut();
            Checks.due("AWAIT " + n, p.exit(1), "7");
        }
    }

    private static void awaitsTheKept() {
        Program p = new Program();
        p.start(p.then(p.keep(2), p.await(2)), 7);
        p.desk.run(4);
        Checks.due("at work", p.desk.count(6), 0);
        Checks.due("WAIT for it", p.desk.cell(2, 4), 0);
        p.desk.run(1);
        Checks.due("AWAIT", p.exit(0), "7");
    }

    private static void awaitsZero() {
        Program p = new Program();
        Checks.due("AWAIT", p.outcome(p.then(p.keep(2), p.await(2)), 0), "0");
        Checks.due("STEPS", p.desk.count(3), 5);
    }

    private static void keeps() {
        Program p = new Program();
        for (int n = 0; n <= 3; n++) {
            Checks.due("KEEP " + n, p.outcome(p.keep(n), 7), "1");
            for (int m = 0; m <= 3; m++) {
                Checks.due("promise " + m, p.desk.cell(m, 1), m == n ? 1 : 0);
                Checks.due("its int", p.desk.cell(m, 2), m == n ? 7 : 0);
            }
        }
        Checks.due("KEEP with 0", p.outcome(p.keep(1), 0), "1");
        Checks.due("promise 1", p.desk.cell(1, 1), 1);
    }

    private static void keepsTwice() {
        Program p = new Program();
        int keep = p.keep(2);
        Checks.due("KEEP twice", p.outcome(p.then(keep, keep), 7), "0");
        Checks.due("its int", p.desk.cell(2, 2), 7);
        Checks.due("with 0 first", p.outcome(p.then(keep, p.give(9), keep), 0), "0");
        Checks.due("its int", p.desk.cell(2, 2), 0);
    }

    /** Fiber 2 comes before 1 does. */
    private static void orderOfComing() {
        Program p = new Program();
        int await = p.await(3);
        int late = p.then(p.yielding(), await);
        p.start(p.then(p.fork(late), p.fork(await), p.sleep(1), p.give(11), p.keep(3), p.await(0)), 0);
        for (int i = 0; i < 60 && p.desk.cell(3, 1) == 0; i++) {
            p.desk.run(1);
        }
        Checks.due("the QUEUE", p.queue(), "2 1");
        Checks.due("WAIT for it", p.desk.cell(3, 4), 0);
        Checks.due("the one that keeps is at work", p.desk.count(6), 0);
        p.runOut();
        Checks.due("fiber 1", p.exit(1), "11");
        Checks.due("fiber 2", p.exit(2), "11");
    }

    private static void othersAwaitOn() {
        Program p = new Program();
        p.start(p.then(p.fork(p.await(3)), p.sleep(1), p.keep(2), p.await(0)), 0);
        p.runOut();
        Checks.due("promise 2", p.desk.cell(2, 1), 1);
        Checks.due("WAIT for promise 3", p.desk.cell(3, 4), 1);
    }

    private static void takes() {
        Program p = new Program();
        for (int n = 0; n <= 3; n++) {
            Checks.due("TAKE " + n, p.outcome(p.take(n), 6), "6");
            Checks.due("permits", p.desk.cell(n, 3), 0);
            Checks.due("STEPS", p.desk.count(3), 2);
        }
    }

    private static void secondTakeWaits() {
        Program p = new Program();
        int take = p.take(1);
        p.start(p.then(take, take), 6);
        Checks.due("run", p.runOut(), FiberDesk.STUCK);
        Checks.due("it WAITS for", p.desk.fiber(0, 7), 6);
        Checks.due("WAIT for gate 1", p.desk.cell(1, 5), 1);
        Checks.due("permits", p.desk.cell(1, 3), 0);
    }

    private static void gatesAreApart() {
        Program p = new Program();
        int e = p.then(p.take(0), p.take(1), p.take(2), p.take(3));
        Checks.due("four TAKEs", p.outcome(e, 6), "6");
        Checks.due("one LEAVE", p.outcome(p.then(e, p.leave(2)), 6), "6");
        for (int n = 0; n <= 3; n++) {
            Checks.due("permits of gate " + n, p.desk.cell(n, 3), n == 2 ? 1 : 0);
        }
    }

    private static void leaves() {
        Program p = new Program();
        int take = p.take(1);
        int leave = p.leave(1);
        Checks.due("LEAVE", p.outcome(leave, 6), "6");
        Checks.due("permits", p.desk.cell(1, 3), 2);
        Checks.due("of another gate", p.desk.cell(0, 3), 1);
        Checks.due("TAKE, LEAVE, TAKE", p.outcome(p.then(take, leave, take), 6), "6");
        Checks.due("permits", p.desk.cell(1, 3), 0);
        Checks.due("LEAVE, TAKE, TAKE", p.outcome(p.then(leave, take, take), 6), "6");
        Checks.due("permits", p.desk.cell(1, 3), 0);
    }

    /** Fiber 2 comes before 1; each goes on with the v of its own. */
    private static void firstOneGetsIt() {
        Program p = new Program();
        int take = p.take(2);
        int late = p.fork(p.then(p.sleep(2), p.give(1), take, p.print()));
        int early = p.fork(p.then(p.give(2), take, p.print()));
        p.start(p.then(take, late, early, p.sleep(9), p.leave(2), p.await(0), p.leave(2), p.await(1)), 0);
        p.runOut();
        Checks.due("behind one LEAVE", p.output(), "2");
        Checks.due("permits", p.desk.cell(2, 3), 0);
        Checks.due("WAIT for gate 2", p.desk.cell(2, 5), 1);
        p.desk.keep(0, 0);
        p.runOut();
        Checks.due("behind two", p.output(), "2 1");
        Checks.due("permits", p.desk.cell(2, 3), 0);
        Checks.due("WAIT for gate 2", p.desk.cell(2, 5), 0);
    }

    private static void othersTakeOn() {
        Program p = new Program();
        int take = p.take(2);
        p.start(p.then(take, p.fork(take), p.sleep(1), p.leave(1), p.await(0)), 0);
        p.runOut();
        Checks.due("permits of gate 1", p.desk.cell(1, 3), 2);
        Checks.due("WAIT for gate 2", p.desk.cell(2, 5), 1);
    }

    private static void interruptedGetsNone() {
        Program p = new Program();
        int take = p.take(0);
        p.start(p.then(take, p.fork(take), p.fork(take), p.await(1), p.leave(0), p.await(2)), 0);
        p.runOut();
        p.desk.interrupt(1);
        p.desk.keep(1, 0);
        p.runOut();
        Checks.due("fiber 1", p.exit(1), "INTERRUPT -1");
        Checks.due("fiber 2", p.exit(2), "1");
        Checks.due("permits", p.desk.cell(0, 3), 0);
    }

    private static void onlyOneInterrupted() {
        Program p = new Program();
        int take = p.take(0);
        p.start(p.then(take, p.fork(take), p.await(1), p.leave(0), p.await(2)), 0);
        p.runOut();
        p.desk.interrupt(1);
        p.desk.keep(1, 0);
        p.runOut();
        Checks.due("permits", p.desk.cell(0, 3), 1);
    }

    /** Behind getting a permit an interrupt replaces what is RETURNed. */
    private static void gotAndInterrupted() {
        Program p = new Program();
        int take = p.take(0);
        p.start(p.then(take, p.fork(take), p.await(1), p.leave(0), p.await(2)), 0);
        p.runOut();
        p.desk.keep(1, 0);
        for (int i = 0; i < 10 && p.desk.cell(0, 5) == 1; i++) {
            p.desk.run(1);
        }
        Checks.due("the QUEUE", p.queue(), "1");
        p.desk.interrupt(1);
        Checks.due("the QUEUE then", p.queue(), "1");
        p.runOut();
        Checks.due("fiber 1", p.exit(1), "INTERRUPT -1");
        Checks.due("permits", p.desk.cell(0, 3), 0);
    }

    private static void maskedTaker() {
        Program p = new Program();
        int take = p.take(0);
        int masked = p.fork(p.mask(p.then(take, p.print())));
        p.start(p.then(take, masked, p.await(1), p.leave(0), p.await(2)), 3);
        p.runOut();
        p.desk.interrupt(1);
        Checks.due("WAIT for gate 0", p.desk.cell(0, 5), 1);
        p.desk.keep(1, 0);
        p.runOut();
        Checks.due("put out", p.output(), "3");
        Checks.due("fiber 1", p.exit(1), "INTERRUPT -1");
        Checks.due("permits", p.desk.cell(0, 3), 0);
    }
}
