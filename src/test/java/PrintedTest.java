/** Promise 10: printed. */
public final class PrintedTest {
    public static void main(String[] args) {
        Checks.edge(10, "the k-th int put out, 0 first", PrintedTest::inOrder);
        Checks.edge(10, "the first 24 are kept: the 24th", () -> kept(24));
        Checks.edge(10, "the first 24 are kept: a 25th is not", () -> kept(25));
        Checks.edge(10, "the first 24 are kept: nor are more", () -> kept(27));
        Checks.edge(10, "0 if there is none: k too small", () -> noSuch(-1, Integer.MIN_VALUE));
        Checks.edge(10, "0 if there is none: k too large", () -> noSuch(2, 23, 24, Integer.MAX_VALUE));
        Checks.edge(10, "0 if there is none: nothing put out", PrintedTest::nothingPutOut);
        Checks.edge(10, "0 if there is none: nothing is started", PrintedTest::nothingStarted);
        Checks.edge(10, "any int is put out", PrintedTest::anyInt);
        Checks.edge(10, "of all fibers, as they come", PrintedTest::ofAllFibers);
        Checks.finish();
    }

    private static void inOrder() {
        Program p = new Program();
        p.outcome(p.then(p.say(7), p.say(-8), p.say(9)), 0);
        Checks.due("printed(0)", p.desk.printed(0), 7);
        Checks.due("printed(1)", p.desk.printed(1), -8);
        Checks.due("printed(2)", p.desk.printed(2), 9);
    }

    /** Puts out 101 and the ints that follow, so many of them. */
    private static void kept(int ints) {
        Program p = new Program();
        int one = p.then(p.input(1), p.print());
        int all = one;
        for (int i = 1; i < ints; i++) {
            all = p.then(one, all);
        }
        p.start(all, 100);
        p.runOut();
        Checks.due("ints put out", p.desk.count(4), ints);
        for (int k = 0; k < 28; k++) {
            Checks.due("printed(" + k + ")", p.desk.printed(k), k < ints && k < 24 ? 101 + k : 0);
        }
    }

    private static void noSuch(int... wrong) {
        Program p = new Program();
        p.outcome(p.then(p.say(7), p.say(8)), 0);
        for (int k : wrong) {
            Checks.due("printed(" + k + ")", p.desk.printed(k), 0);
        }
        Checks.due("printed(1)", p.desk.printed(1), 8);
    }

    private static void nothingPutOut() {
        Program p = new Program();
        p.start(p.print(), 5);
        Checks.due("before PRINT", p.desk.printed(0), 0);
        p.desk.run(1);
        Checks.due("behind PRINT", p.desk.printed(0), 5);
        Checks.due("printed(1)", p.desk.printed(1), 0);
    }

    private static void nothingStarted() {
        Program p = new Program();
        p.print();
        Checks.due("printed(0)", p.desk.printed(0), 0);
    }

    private static void anyInt() {
        Program p = new Program();
        int print = p.print();
        for (int v : new int[] {Integer.MIN_VALUE, -1, 0, Integer.MAX_VALUE}) {
            p.start(print, v);
            p.runOut();
            Checks.due("printed(0)", p.desk.printed(0), v);
            Checks.due("ints put out", p.desk.count(4), 1);
        }
    }

    private static void ofAllFibers() {
        Program p = new Program();
        p.start(p.then(p.fork(p.say(1)), p.fork(p.say(2)), p.sleep(1), p.say(3)), 0);
        p.runOut();
        Checks.due("put out", p.output(), "1 2 3");
    }
}
