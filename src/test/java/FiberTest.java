/** Promise 7: fiber. */
public final class FiberTest {
    public static void main(String[] args) {
        wrongNumbers();
        whatItTells();
        ofTheEnded();
        Checks.finish();
    }

    private static void wrongNumbers() {
        Program p = new Program();
        int e = p.give(1);
        Checks.due("nothing is started", p.desk.fiber(0, 0), FiberDesk.REFUSED);
        p.start(e, 0);
        int[] fibers = {-1, 1, 10, Integer.MIN_VALUE, Integer.MAX_VALUE};
        int[] whats = {-1, 8, Integer.MIN_VALUE, Integer.MAX_VALUE};
        for (int f : fibers) {
            for (int what = 0; what <= 7; what++) {
                Checks.due("fiber(" + f + ", " + what + ")", p.desk.fiber(f, what), FiberDesk.REFUSED);
            }
        }
        for (int what : whats) {
            Checks.due("fiber(0, " + what + ")", p.desk.fiber(0, what), FiberDesk.REFUSED);
        }
    }

    private static void all(Program p, int f, int... due) {
        for (int what = 0; what < due.length; what++) {
            Checks.due("fiber(" + f + ", " + what + ")", p.desk.fiber(f, what), due[what]);
        }
    }

    private static void whatItTells() {
        Program p = new Program();
        int child = p.mask(p.scope(p.await(0)));
        p.start(p.then(p.fork(child), p.join()), 7);
        all(p, 0, 0, 0, 0, 0, -1, 0, 0, 0);
        p.desk.run(1);
        all(p, 0, 0, 0, 1, 0, -1, 0, 1, 0);
        p.desk.run(1);
        all(p, 1, 0, 0, 0, 0, 0, 0, 0, 0);
        p.runOut();
        all(p, 0, 1, 0, 0, 0, -1, 0, 4, 1);
        all(p, 1, 1, 1, 2, 0, 0, 0, 3, 5);
        p.desk.interrupt(1);
        all(p, 1, 1, 1, 2, 1, 0, 0, 3, 5);
        p.desk.keep(0, 5);
        all(p, 1, 0, 1, 2, 1, 0, 0, 3, 0);
        p.runOut();
        all(p, 1, 3, 0, 0, 2, 0, 0, 7, 0);
        all(p, 0, 3, 0, 0, 0, -1, 0, 5, 0);
    }

    private static void ofTheEnded() {
        Program p = new Program();
        p.start(p.mask(p.give(-4)), 0);
        p.desk.run(2);
        Checks.due("no value before the end", p.desk.fiber(0, 5), 0);
        p.runOut();
        all(p, 0, 2, 0, 0, 0, -1, -4, 4, 0);
        p.start(p.fail(9), 3);
        p.runOut();
        all(p, 0, 3, 0, 0, 0, -1, 0, 2, 0);
    }
}
