/** Promise 5: interrupt from outside. */
public final class InterruptTest {
    public static void main(String[] args) {
        wrongFibers();
        ofTheReady();
        ofThoseThatWait();
        firstOneCounts();
        Checks.finish();
    }

    private static void wrongFibers() {
        Program p = new Program();
        int e = p.then(p.fork(p.await(0)), p.await(1));
        Checks.due("nothing is started", p.desk.interrupt(0), false);
        p.start(e, 0);
        p.runOut();
        int[] wrongs = {-1, 2, 10, Integer.MIN_VALUE, Integer.MAX_VALUE};
        for (int f : wrongs) {
            Checks.due("interrupt(" + f + ")", p.desk.interrupt(f), false);
        }
        Checks.due("all wait on", p.desk.count(7), FiberDesk.STUCK);
        p.desk.keep(0, 1);
        p.runOut();
        Checks.due("of one that has ended", p.desk.interrupt(1), false);
        Checks.due("it had none", p.desk.fiber(1, 3), 0);
    }

    private static void ofTheReady() {
        Program p = new Program();
        p.start(p.then(p.yielding(), p.print()), 0);
        Checks.due("in the queue", p.desk.interrupt(0), true);
        Checks.due("pending", p.desk.fiber(0, 3), 1);
        Checks.due("in the queue once", p.queue(), "0");
        p.runOut();
        Checks.due("its end", p.exit(0), "INTERRUPT -1");
        p.start(p.then(p.print(), p.print(), p.print()), 6);
        p.desk.run(4);
        Checks.due("at work", p.desk.count(6), 0);
        Checks.due("interrupt", p.desk.interrupt(0), true);
        Checks.due("not in the queue", p.queue(), "");
        Checks.due("still at work", p.desk.count(6), 0);
        p.runOut();
        Checks.due("what was done before", p.output(), "6");
        Checks.due("its end", p.exit(0), "INTERRUPT -1");
    }

    private static void ofThoseThatWait() {
        for (int reason = 1; reason <= 6; reason++) {
            Program p = new Program();
            int holder = p.mask(p.then(p.take(0), p.fork(waiting(p, reason)), p.await(3)));
            p.start(holder, 0);
            for (int k = 0; k < 60 && (p.desk.fiber(1, 0) != 1 || p.desk.fiber(0, 7) != 5); k++) {
                p.desk.run(1);
            }
            int awaiting = p.desk.cell(0, 4);
            Checks.due("waits for", p.desk.fiber(1, 7), reason);
            Checks.due("interrupt", p.desk.interrupt(1), true);
            Checks.due("waits for nothing", p.desk.fiber(1, 7), 0);
            Checks.due("is ready", p.desk.fiber(1, 0), 0);
            Checks.due("is at the back", p.queue().endsWith("1"), true);
            Checks.due("no promise's line holds it", p.desk.cell(0, 4), reason == 5 ? awaiting - 1 : awaiting);
            Checks.due("no gate's line holds it", p.desk.cell(0, 5), 0);
            p.runOut();
            Checks.due("its end", p.exit(1), "INTERRUPT -1");
        }
    }

    private static int waiting(Program p, int reason) {
        switch (reason) {
            case 1: return p.then(p.give(0), p.join());
            case 2: return p.then(p.give(0), p.halt());
            case 3: return p.race(p.await(0), p.await(0));
            case 4: return p.sleep(9);
            case 5: return p.await(0);
            default: return p.take(0);
        }
    }

    private static void firstOneCounts() {
        Program p = new Program();
        p.start(p.then(p.halt(), p.print()), 0);
        p.desk.interrupt(0);
        Checks.due("again is true", p.desk.interrupt(0), true);
        Checks.due("one is pending", p.desk.fiber(0, 3), 1);
        p.start(p.mask(p.then(p.halt(), p.yielding())), 0);
        p.desk.run(3);
        Checks.due("behind HALT of itself", p.desk.interrupt(0), true);
        p.runOut();
        Checks.due("by whom it came first", p.exit(0), "INTERRUPT 0");
    }
}
