/** Promise 12: count. */
public final class CountTest {
    public static void main(String[] args) {
        Program p = new Program();
        all(p, 0, 0, 0, 0, 0, 0, -1, -1);
        int e = p.then(p.fork(p.await(0)), p.print(), p.sleep(6), p.await(1));
        all(p, e + 1, 0, 0, 0, 0, 0, -1, -1);
        wrongNumbers(p);
        p.start(e, 0);
        all(p, e + 1, 1, 0, 0, 0, 0, -1, 0);
        p.desk.run(4);
        all(p, e + 1, 2, 0, 4, 0, 1, 0, 0);
        p.desk.run(1);
        all(p, e + 1, 2, 0, 5, 0, 1, -1, 0);
        p.desk.run(1);
        all(p, e + 1, 2, 0, 6, 0, 2, -1, 0);
        p.desk.run(3);
        all(p, e + 1, 2, 0, 9, 1, 3, -1, 0);
        p.desk.run(20);
        all(p, e + 1, 2, 6, 11, 1, 4, -1, 2);
        p.desk.keep(1, 0);
        all(p, e + 1, 2, 6, 11, 1, 4, -1, 0);
        p.desk.run(20);
        all(p, e + 1, 2, 6, 14, 1, 6, -1, 1);
        wrongNumbers(p);
        Checks.finish();
    }

    private static void wrongNumbers(Program p) {
        int[] wrongs = {-1, 8, Integer.MIN_VALUE, Integer.MAX_VALUE};
        for (int what : wrongs) {
            Checks.due("count(" + what + ")", p.desk.count(what), FiberDesk.REFUSED);
        }
    }

    private static void all(Program p, int... due) {
        for (int what = 0; what < due.length; what++) {
            Checks.due("count(" + what + ")", p.desk.count(what), due[what]);
        }
    }
}
