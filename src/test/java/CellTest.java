/** Promise 11: cell. */
public final class CellTest {
    public static void main(String[] args) {
        Checks.edge(11, "what 0: cell n, at first 0", CellTest::cells);
        Checks.edge(11, "what 1: 1 if promise n is kept, else 0", CellTest::kept);
        Checks.edge(11, "what 2: its int, 0 if it is not kept", CellTest::promised);
        Checks.edge(11, "what 3: permits of gate n, 1 at first", CellTest::permits);
        Checks.edge(11, "what 4: how many WAIT for promise n", CellTest::awaiting);
        Checks.edge(11, "what 5: how many WAIT for gate n", CellTest::taking);
        Checks.edge(11, "places 0 to 3 are apart", CellTest::placesAreApart);
        Checks.edge(11, "REFUSED for others: n too small", () -> noSuchPlace(-1, Integer.MIN_VALUE));
        Checks.edge(11, "REFUSED for others: n too large", () -> noSuchPlace(4, 5, Integer.MAX_VALUE));
        Checks.edge(11, "REFUSED for others: what too small", () -> noSuchWhat(-1, Integer.MIN_VALUE));
        Checks.edge(11, "REFUSED for others: what too large", () -> noSuchWhat(6, 7, Integer.MAX_VALUE));
        Checks.edge(11, "REFUSED if nothing is started", CellTest::nothingStarted);
        Checks.finish();
    }

    private static void all(Program p, int n, int... due) {
        for (int what = 0; what < due.length; what++) {
            Checks.due("cell(" + n + ", " + what + ")", p.desk.cell(n, what), due[what]);
        }
    }

    private static void cells() {
        Program p = new Program();
        int set = p.set(3);
        p.start(set, -7);
        Checks.due("at first", p.desk.cell(3, 0), 0);
        p.desk.run(1);
        Checks.due("behind SET", p.desk.cell(3, 0), -7);
        for (int v : new int[] {Integer.MIN_VALUE, -1, Integer.MAX_VALUE}) {
            p.outcome(set, v);
            Checks.due("behind SET with " + v, p.desk.cell(3, 0), v);
        }
    }

    private static void kept() {
        Program p = new Program();
        p.start(p.await(0), 0);
        p.runOut();
        Checks.due("not kept", p.desk.cell(0, 1), 0);
        p.desk.keep(0, 0);
        Checks.due("kept with 0", p.desk.cell(0, 1), 1);
        Checks.due("another one", p.desk.cell(1, 1), 0);
    }

    private static void promised() {
        Program p = new Program();
        p.start(p.keep(0), Integer.MIN_VALUE);
        Checks.due("not kept", p.desk.cell(0, 2), 0);
        p.runOut();
        Checks.due("kept by KEEP", p.desk.cell(0, 2), Integer.MIN_VALUE);
        p.desk.keep(1, -1);
        Checks.due("kept from outside", p.desk.cell(1, 2), -1);
        Checks.due("another one", p.desk.cell(2, 2), 0);
    }

    private static void permits() {
        Program p = new Program();
        int take = p.take(1);
        int leave = p.leave(1);
        p.start(p.then(leave, leave, take, take, take), 0);
        Checks.due("at first", p.desk.cell(1, 3), 1);
        int most = 0;
        for (int i = 0; i < 30 && p.desk.count(7) == FiberDesk.RUNNING; i++) {
            p.desk.run(1);
            most = Math.max(most, p.desk.cell(1, 3));
        }
        Checks.due("behind two LEAVEs", most, 3);
        Checks.due("behind three TAKEs", p.desk.cell(1, 3), 0);
    }

    private static void awaiting() {
        Program p = new Program();
        int fork = p.fork(p.await(2));
        p.start(p.then(fork, fork, fork, p.await(1)), 0);
        Checks.due("at first", p.desk.cell(2, 4), 0);
        p.runOut();
        Checks.due("three", p.desk.cell(2, 4), 3);
        Checks.due("one for another", p.desk.cell(1, 4), 1);
        p.desk.interrupt(2);
        Checks.due("one is interrupted", p.desk.cell(2, 4), 2);
        p.desk.keep(2, 0);
        Checks.due("kept", p.desk.cell(2, 4), 0);
        Checks.due("one for another", p.desk.cell(1, 4), 1);
    }

    private static void taking() {
        Program p = new Program();
        int take = p.take(2);
        int fork = p.fork(take);
        p.start(p.then(take, fork, fork, fork, p.await(0), p.leave(2), p.await(1)), 0);
        Checks.due("at first", p.desk.cell(2, 5), 0);
        p.runOut();
        Checks.due("three", p.desk.cell(2, 5), 3);
        Checks.due("for another", p.desk.cell(1, 5), 0);
        p.desk.interrupt(1);
        Checks.due("one is interrupted", p.desk.cell(2, 5), 2);
        p.desk.keep(0, 0);
        p.runOut();
        Checks.due("one got a permit", p.desk.cell(2, 5), 1);
        Checks.due("permits", p.desk.cell(2, 3), 0);
    }

    private static void placesAreApart() {
        Program p = new Program();
        int take = p.take(2);
        int fork = p.fork(take);
        p.start(p.then(p.set(2), p.keep(3), take, fork, fork, p.fork(p.await(2)), p.await(1)), 44);
        p.runOut();
        all(p, 0, 0, 0, 0, 1, 0, 0);
        all(p, 1, 0, 0, 0, 1, 1, 0);
        all(p, 2, 44, 0, 0, 0, 1, 2);
        all(p, 3, 0, 1, 44, 1, 0, 0);
    }

    private static void noSuchPlace(int... wrong) {
        Program p = new Program();
        p.start(p.give(1), 0);
        for (int n : wrong) {
            all(p, n, -1, -1, -1, -1, -1, -1);
        }
    }

    private static void noSuchWhat(int... wrong) {
        Program p = new Program();
        p.start(p.give(1), 0);
        for (int what : wrong) {
            for (int n = 0; n <= 3; n++) {
                Checks.due("cell(" + n + ", " + what + ")", p.desk.cell(n, what), FiberDesk.REFUSED);
            }
        }
    }

    private static void nothingStarted() {
        Program p = new Program();
        p.set(0);
        for (int n = 0; n <= 3; n++) {
            all(p, n, -1, -1, -1, -1, -1, -1);
        }
    }
}
