/** Promise 6: keep from outside. */
public final class KeepTest {
    public static void main(String[] args) {
        Program p = new Program();
        int e = p.then(p.fork(p.await(1)), p.fork(p.await(1)), p.await(1), p.keep(1));
        Checks.due("nothing is started", p.desk.keep(1, 5), false);
        p.start(e, 0);
        Checks.due("not kept by that", p.desk.cell(1, 1), 0);
        int[] wrongs = {-1, 4, Integer.MIN_VALUE, Integer.MAX_VALUE};
        for (int n : wrongs) {
            Checks.due("keep(" + n + ")", p.desk.keep(n, 5), false);
        }
        p.runOut();
        Checks.due("three wait", p.desk.cell(1, 4), 3);
        Checks.due("keep of another", p.desk.keep(2, 9), true);
        Checks.due("three wait on", p.desk.cell(1, 4), 3);
        Checks.due("keep", p.desk.keep(1, -5), true);
        Checks.due("none waits", p.desk.cell(1, 4), 0);
        Checks.due("kept", p.desk.cell(1, 1), 1);
        Checks.due("its int", p.desk.cell(1, 2), -5);
        Checks.due("all are ready, as they came", p.queue(), "1 0 2");
        Checks.due("a second keep", p.desk.keep(1, 6), false);
        Checks.due("its int stays", p.desk.cell(1, 2), -5);
        p.runOut();
        Checks.due("fiber 1", p.exit(1), "-5");
        Checks.due("KEEP of what is kept", p.exit(0), "0");
        keepsWhatNobodyAwaits();
        Checks.finish();
    }

    private static void keepsWhatNobodyAwaits() {
        Program p = new Program();
        p.start(p.await(3), 0);
        for (int n = 0; n < 4; n++) {
            Checks.due("keep(" + n + ")", p.desk.keep(n, 30 + n), true);
            Checks.due("again", p.desk.keep(n, 1), false);
        }
        Checks.due("done", p.desk.run(2), FiberDesk.DONE);
        Checks.due("its value", p.exit(0), "33");
    }
}
