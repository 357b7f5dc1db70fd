/** Promise 8: cause. */
public final class CauseTest {
    public static void main(String[] args) {
        parts();
        refusals();
        Checks.finish();
    }

    private static void part(Program p, int k, int kind, int n) {
        Checks.due("cause(0, " + k + ", 0)", p.desk.cause(0, k, 0), kind);
        Checks.due("cause(0, " + k + ", 1)", p.desk.cause(0, k, 1), n);
    }

    private static void parts() {
        Program p = new Program();
        int two = p.ensure(p.fail(3), p.die(-4));
        p.start(p.race(two, p.then(p.give(2), p.halt())), 0);
        p.runOut();
        part(p, 0, 5, 0);
        part(p, 1, 4, 0);
        part(p, 2, 1, 3);
        part(p, 3, 2, -4);
        part(p, 4, 3, 2);
        part(p, 5, -1, -1);
    }

    private static void refusals() {
        Program p = new Program();
        int e = p.then(p.fork(p.fail(6)), p.mask(p.await(0)), p.fail(8));
        Checks.due("nothing is started", p.desk.cause(0, 0, 0), FiberDesk.REFUSED);
        p.start(e, 0);
        p.runOut();
        Checks.due("of one that waits", p.desk.cause(0, 0, 0), FiberDesk.REFUSED);
        Checks.due("of one that has ended", p.desk.cause(1, 0, 1), 6);
        int[] wrongs = {-1, 2, 9, Integer.MIN_VALUE, Integer.MAX_VALUE};
        for (int w : wrongs) {
            Checks.due("cause(" + w + ", 0, 0)", p.desk.cause(w, 0, 0), FiberDesk.REFUSED);
            Checks.due("cause(1, " + w + ", 0)", p.desk.cause(1, w, 0), FiberDesk.REFUSED);
            Checks.due("cause(1, 0, " + w + ")", p.desk.cause(1, 0, w), FiberDesk.REFUSED);
        }
        Checks.due("cause(1, 1, 0)", p.desk.cause(1, 1, 0), FiberDesk.REFUSED);
        p.desk.keep(0, 1);
        for (int i = 0; i < 9 && p.desk.fiber(0, 0) == 0; i++) {
            Checks.due("of a cause that is returned yet", p.desk.cause(0, 0, 0), FiberDesk.REFUSED);
            p.desk.run(1);
        }
        Checks.due("at the end", p.exit(0), "FAIL 8");
        p.start(p.give(1), 0);
        p.runOut();
        Checks.due("of a value", p.desk.cause(0, 0, 0), FiberDesk.REFUSED);
    }
}
