/** Promises 4, 6 and 11: cells, promises and gates, by GET, SET, AWAIT, KEEP, TAKE and LEAVE. */
public final class PlaceTest {
    public static void main(String[] args) {
        cellsHoldInts();
        promisesAreKeptOnce();
        thoseThatAwaitGoOnInOrder();
        gatesHaveOnePermit();
        gatesServeInOrder();
        interruptedOnesLeaveTheLine();
        aPermitGivenIsGone();
        Checks.finish();
    }

    private static void cellsHoldInts() {
        Program p = new Program();
        for (int n = 0; n < 4; n++) {
            Checks.due("GET at first", p.outcome(p.get(n), 9), "0");
            Checks.due("SET gives v", p.outcome(p.set(n), n + 5), String.valueOf(n + 5));
            for (int m = 0; m < 4; m++) {
                Checks.due("cell(" + m + ", 0)", p.desk.cell(m, 0), m == n ? n + 5 : 0);
            }
            Checks.due("GET behind SET", p.outcome(p.then(p.set(n), p.give(1), p.get(n)), -8), "-8");
        }
    }

    private static void promisesAreKeptOnce() {
        Program p = new Program();
        int keep = p.keep(2);
        Checks.due("KEEP", p.outcome(keep, 7), "1");
        Checks.due("kept", p.desk.cell(2, 1), 1);
        Checks.due("its int", p.desk.cell(2, 2), 7);
        Checks.due("a second KEEP", p.outcome(p.then(keep, keep), 7), "0");
        Checks.due("its int stays", p.desk.cell(2, 2), 7);
        Checks.due("AWAIT of one that is kept", p.outcome(p.then(keep, p.await(2)), 7), "7");
        Checks.due("without waiting", p.desk.count(3), 5);
        Checks.due("another promise is not", p.desk.cell(1, 1), 0);
    }

    /** Fiber 2 comes before 1 does. */
    private static void thoseThatAwaitGoOnInOrder() {
        Program p = new Program();
        int await = p.await(3);
        int late = p.then(p.yielding(), await);
        int e = p.then(p.fork(late), p.fork(await), p.sleep(1), p.give(11), p.keep(3), p.await(0));
        p.start(e, 0);
        for (int i = 0; i < 40 && p.desk.cell(3, 4) < 2; i++) {
            p.desk.run(1);
        }
        Checks.due("two wait", p.desk.cell(3, 4), 2);
        for (int i = 0; i < 40 && p.desk.cell(3, 1) == 0; i++) {
            p.desk.run(1);
        }
        Checks.due("in their order", p.queue(), "2 1");
        Checks.due("none waits", p.desk.cell(3, 4), 0);
        p.runOut();
        Checks.due("1", p.exit(1), "11");
        Checks.due("2", p.exit(2), "11");
    }

    private static void gatesHaveOnePermit() {
        Program p = new Program();
        int take = p.take(1);
        int leave = p.leave(1);
        Checks.due("TAKE", p.outcome(take, 6), "6");
        Checks.due("permits", p.desk.cell(1, 3), 0);
        Checks.due("of another gate", p.desk.cell(0, 3), 1);
        Checks.due("LEAVE", p.outcome(leave, 6), "6");
        Checks.due("permits", p.desk.cell(1, 3), 2);
        Checks.due("two TAKEs", p.outcome(p.then(leave, take, take), 6), "6");
        Checks.due("permits", p.desk.cell(1, 3), 0);
        p.start(p.then(take, take), 6);
        Checks.due("stuck", p.runOut(), FiberDesk.STUCK);
        Checks.due("waits for TAKE", p.desk.fiber(0, 7), 6);
        Checks.due("one waits", p.desk.cell(1, 5), 1);
    }

    private static void gatesServeInOrder() {
        Program p = new Program();
        int take = p.take(2);
        int leave = p.leave(2);
        int late = p.then(p.sleep(2), p.give(1), take, p.print());
        int early = p.then(p.give(2), take, p.print());
        p.start(p.then(take, p.fork(late), p.fork(early), p.sleep(9), leave, leave, p.await(0)), 0);
        p.runOut();
        Checks.due("the one that came first, each with its v", p.output(), "2 1");
        Checks.due("permits", p.desk.cell(2, 3), 0);
        Checks.due("none waits", p.desk.cell(2, 5), 0);
    }

    private static void interruptedOnesLeaveTheLine() {
        Program p = new Program();
        int take = p.take(0);
        p.start(p.then(take, p.fork(take), p.fork(take), p.await(1), p.leave(0), p.await(2)), 0);
        p.runOut();
        Checks.due("two wait", p.desk.cell(0, 5), 2);
        Checks.due("interrupt", p.desk.interrupt(1), true);
        Checks.due("one waits", p.desk.cell(0, 5), 1);
        p.desk.keep(1, 0);
        p.runOut();
        Checks.due("1", p.exit(1), "INTERRUPT -1");
        Checks.due("2 has got the permit", p.exit(2), "1");
        Checks.due("permits", p.desk.cell(0, 3), 0);
    }

    /** Behind getting a permit, an interrupt replaces what is returned; the permit stays taken. */
    private static void aPermitGivenIsGone() {
        Program p = new Program();
        int take = p.take(0);
        p.start(p.then(take, p.fork(take), p.await(1), p.leave(0), p.await(2)), 0);
        p.runOut();
        p.desk.keep(1, 0);
        for (int i = 0; i < 10 && p.desk.cell(0, 5) == 1; i++) {
            p.desk.run(1);
        }
        Checks.due("1 is ready", p.queue(), "1");
        p.desk.interrupt(1);
        Checks.due("once", p.queue(), "1");
        p.runOut();
        Checks.due("1", p.exit(1), "INTERRUPT -1");
        Checks.due("permits", p.desk.cell(0, 3), 0);
    }
}
