/** Promise 11: cell. */
public final class CellTest {
    public static void main(String[] args) {
        Program p = new Program();
        int take = p.take(2);
        int fork = p.fork(take);
        int e = p.then(p.set(2), p.keep(3), take, fork, fork, p.fork(p.await(2)), p.await(1));
        Checks.due("nothing is started", p.desk.cell(0, 0), FiberDesk.REFUSED);
        p.start(e, 44);
        for (int n = 0; n < 4; n++) {
            all(p, n, 0, 0, 0, 1, 0, 0);
        }
        p.runOut();
        all(p, 0, 0, 0, 0, 1, 0, 0);
        all(p, 1, 0, 0, 0, 1, 1, 0);
        all(p, 2, 44, 0, 0, 0, 1, 2);
        all(p, 3, 0, 1, 44, 1, 0, 0);
        int[] wrongs = {-1, 4, 6, Integer.MIN_VALUE, Integer.MAX_VALUE};
        for (int w : wrongs) {
            Checks.due("cell(" + w + ", 0)", p.desk.cell(w, 0), FiberDesk.REFUSED);
            Checks.due("cell(0, " + w + ")", p.desk.cell(0, w), w == 4 ? 0 : FiberDesk.REFUSED);
        }
        Checks.finish();
    }

    private static void all(Program p, int n, int... due) {
        for (int what = 0; what < due.length; what++) {
            Checks.due("cell(" + n + ", " + what + ")", p.desk.cell(n, what), due[what]);
        }
    }
}
