/** Promise 3: start. */
public final class StartTest {
    public static void main(String[] args) {
        startsFiberZero();
        wrongEffects();
        allBeginsAnew();
        Checks.finish();
    }

    private static void startsFiberZero() {
        Program p = new Program();
        p.start(p.input(1), 4);
        Checks.due("fibers", p.desk.count(1), 1);
        Checks.due("ready", p.desk.fiber(0, 0), 0);
        Checks.due("not masked", p.desk.fiber(0, 1), 0);
        Checks.due("parent", p.desk.fiber(0, 4), -1);
        Checks.due("in the queue", p.queue(), "0");
        Checks.due("how all stands", p.desk.count(7), FiberDesk.RUNNING);
        Checks.due("steps", p.desk.count(3), 0);
        Checks.due("turns", p.desk.count(5), 0);
        p.runOut();
        Checks.due("its end", p.exit(0), "5");
    }

    private static void wrongEffects() {
        Program p = new Program();
        p.start(p.then(p.print(), p.await(0)), 6);
        p.runOut();
        int[] wrongs = {-1, 3, 40, Integer.MIN_VALUE, Integer.MAX_VALUE};
        for (int e : wrongs) {
            Checks.due("start(" + e + ")", p.desk.start(e, 0), false);
        }
        Checks.due("nothing changes: steps", p.desk.count(3), 4);
        Checks.due("nothing changes: output", p.output(), "6");
        Checks.due("nothing changes: fiber 0", p.desk.fiber(0, 7), 5);
    }

    private static void allBeginsAnew() {
        Program p = new Program();
        int fork = p.fork(p.await(3));
        int take = p.take(1);
        int e = p.then(p.set(0), p.print(), p.keep(2), take, fork, p.sleep(3), p.fork(take), p.yielding(), p.sleep(1), p.mask(p.await(3)));
        p.start(e, 9);
        p.runOut();
        p.desk.interrupt(0);
        Checks.due("before: cell, promise, permits", p.desk.cell(0, 0) * 100 + p.desk.cell(2, 1) * 10 + p.desk.cell(1, 3), 910);
        Checks.due("before: waiting", p.desk.cell(3, 4) * 10 + p.desk.cell(1, 5), 21);
        int quiet = p.await(0);
        p.start(quiet, 0);
        for (int n = 0; n < 4; n++) {
            for (int what = 0; what <= 5; what++) {
                Checks.due("cell(" + n + ", " + what + ")", p.desk.cell(n, what), what == 3 ? 1 : 0);
            }
        }
        Checks.due("fibers", p.desk.count(1), 1);
        Checks.due("the clock", p.desk.count(2), 0);
        Checks.due("steps", p.desk.count(3), 0);
        Checks.due("put out", p.desk.count(4), 0);
        Checks.due("printed", p.desk.printed(0), 0);
        Checks.due("turns", p.desk.count(5), 0);
        Checks.due("at work", p.desk.count(6), -1);
        Checks.due("interrupt", p.desk.fiber(0, 3), 0);
        Checks.due("masked", p.desk.fiber(0, 1), 0);
        Checks.due("fiber 1 is gone", p.desk.fiber(1, 0), FiberDesk.REFUSED);
        Checks.due("effects stay", p.desk.count(0), quiet + 1);
        Checks.due("the queue", p.queue(), "0");
        startInTheMiddleOfATurn();
    }

    private static void startInTheMiddleOfATurn() {
        Program p = new Program();
        int e = p.then(p.input(1), p.input(1), p.input(1));
        p.start(e, 0);
        p.start(e, 0);
        Checks.due("the queue, started twice", p.queue(), "0");
        p.desk.run(3);
        Checks.due("at work", p.desk.count(6), 0);
        p.start(e, 10);
        Checks.due("none at work", p.desk.count(6), -1);
        p.desk.run(5);
        Checks.due("a new turn has five steps", p.desk.count(6), -1);
        Checks.due("turns", p.desk.count(5), 1);
        p.runOut();
        Checks.due("its end", p.exit(0), "13");
    }
}
