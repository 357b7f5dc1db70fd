/** Promise 8: cause, and of what CAUSES are made. */
public final class CauseTest {
    public static void main(String[] args) {
        Checks.edge(8, "FAIL n, n any int", () -> single(2, 1));
        Checks.edge(8, "DIE n, n any int", () -> single(3, 2));
        Checks.edge(8, "INTERRUPT f: by fiber f", CauseTest::interruptByAFiber);
        Checks.edge(8, "INTERRUPT -1: from outside", CauseTest::interruptFromOutside);
        Checks.edge(8, "THEN and two CAUSES, prefix", CauseTest::thenOfTwo);
        Checks.edge(8, "BOTH and two CAUSES, prefix", CauseTest::bothOfTwo);
        Checks.edge(8, "what 1: 0 for THEN and BOTH", CauseTest::numbersOfPairs);
        Checks.edge(8, "THEN of 9 parts", CauseTest::thenOfNine);
        Checks.edge(8, "THEN of more than 9 is its first part alone", CauseTest::thenOfEleven);
        Checks.edge(8, "THEN of more than 9, the second being the long one", CauseTest::thenOfALongSecond);
        Checks.edge(8, "THEN of more than 9, then one that has room", CauseTest::roomBehindACut);
        Checks.edge(8, "BOTH of 9 parts", CauseTest::bothOfNine);
        Checks.edge(8, "BOTH of more than 9 is its first part alone", CauseTest::bothOfEleven);
        Checks.edge(8, "BOTH of more than 9, X ENDED last", CauseTest::bothCutIsOfX);
        Checks.edge(8, "REFUSED for others: f too small", () -> noSuchFiber(-1, Integer.MIN_VALUE));
        Checks.edge(8, "REFUSED for others: f too large", () -> noSuchFiber(3, 9, 10, Integer.MAX_VALUE));
        Checks.edge(8, "REFUSED for others: k too small", () -> noSuchPart(-1, Integer.MIN_VALUE));
        Checks.edge(8, "REFUSED for others: k too large", () -> noSuchPart(3, 4, 9, Integer.MAX_VALUE));
        Checks.edge(8, "REFUSED for others: what too small", () -> noSuchWhat(-1, Integer.MIN_VALUE));
        Checks.edge(8, "REFUSED for others: what too large", () -> noSuchWhat(2, 3, Integer.MAX_VALUE));
        Checks.edge(8, "REFUSED for others: it has ENDED with a VALUE", CauseTest::endedWithValue);
        Checks.edge(8, "REFUSED for others: it has not ENDED", CauseTest::notEnded);
        Checks.edge(8, "REFUSED for others: nothing is started", CauseTest::nothingStarted);
        Checks.finish();
    }

    private static void single(int kind, int part) {
        for (int n : new int[] {0, 1, -1, Integer.MIN_VALUE, Integer.MAX_VALUE}) {
            Program p = new Program();
            p.start(p.desk.effect(kind, n, 0, 0), 5);
            p.runOut();
            Checks.due("cause(0, 0, 0)", p.desk.cause(0, 0, 0), part);
            Checks.due("cause(0, 0, 1)", p.desk.cause(0, 0, 1), n);
            Checks.due("cause(0, 1, 0)", p.desk.cause(0, 1, 0), FiberDesk.REFUSED);
        }
    }

    private static void interruptByAFiber() {
        Program p = new Program();
        p.start(p.then(p.fork(p.then(p.give(2), p.halt())), p.fork(p.await(0)), p.await(0)), 0);
        p.runOut();
        Checks.due("cause(2, 0, 0)", p.desk.cause(2, 0, 0), 3);
        Checks.due("cause(2, 0, 1)", p.desk.cause(2, 0, 1), 1);
        p.start(p.halt(), 0);
        p.runOut();
        Checks.due("by fiber 0", p.exit(0), "INTERRUPT 0");
    }

    private static void interruptFromOutside() {
        Program p = new Program();
        p.start(p.give(1), 0);
        p.desk.interrupt(0);
        p.runOut();
        Checks.due("cause(0, 0, 0)", p.desk.cause(0, 0, 0), 3);
        Checks.due("cause(0, 0, 1)", p.desk.cause(0, 0, 1), -1);
    }

    private static void thenOfTwo() {
        Program p = new Program();
        Checks.due("FAIL and DIE", p.outcome(p.ensure(p.fail(3), p.die(-4)), 0), "THEN FAIL 3 DIE -4");
        int left = p.ensure(p.ensure(p.fail(1), p.fail(2)), p.fail(3));
        Checks.due("THEN first", p.outcome(left, 0), "THEN THEN FAIL 1 FAIL 2 FAIL 3");
        int right = p.ensure(p.fail(1), p.ensure(p.fail(2), p.fail(3)));
        Checks.due("THEN second", p.outcome(right, 0), "THEN FAIL 1 THEN FAIL 2 FAIL 3");
    }

    private static void bothOfTwo() {
        Program p = new Program();
        int two = p.ensure(p.fail(3), p.die(-4));
        Checks.due("FAIL and DIE", p.outcome(p.race(p.fail(3), p.die(-4)), 0), "BOTH FAIL 3 DIE -4");
        Checks.due("THEN first", p.outcome(p.race(two, p.fail(5)), 0), "BOTH THEN FAIL 3 DIE -4 FAIL 5");
        Checks.due("THEN second", p.outcome(p.race(p.fail(5), two), 0), "BOTH FAIL 5 THEN FAIL 3 DIE -4");
    }

    private static void numbersOfPairs() {
        Program p = new Program();
        p.start(p.race(p.ensure(p.fail(3), p.die(4)), p.fail(5)), 0);
        p.runOut();
        int[] kinds = {5, 4, 1, 2, 1};
        int[] numbers = {0, 0, 3, 4, 5};
        for (int k = 0; k < kinds.length; k++) {
            Checks.due("cause(0, " + k + ", 0)", p.desk.cause(0, k, 0), kinds[k]);
            Checks.due("cause(0, " + k + ", 1)", p.desk.cause(0, k, 1), numbers[k]);
        }
    }

    /** FAIL n, with more FAILs of closers behind it: parts is 1, 3, 5, 7 or 9. */
    private static int chain(Program p, int n, int parts) {
        int e = p.fail(n);
        for (int i = 1; i <= parts / 2; i++) {
            e = p.ensure(e, p.fail(n + i));
        }
        return e;
    }

    private static String chainText(int n, int parts) {
        StringBuilder text = new StringBuilder("FAIL " + n);
        for (int i = 1; i <= parts / 2; i++) {
            text.insert(0, "THEN ").append(" FAIL ").append(n + i);
        }
        return text.toString();
    }

    private static void thenOfNine() {
        Program p = new Program();
        Checks.due("7 and 1", p.outcome(chain(p, 10, 9), 0), chainText(10, 9));
        Checks.due("the ninth part", p.desk.cause(0, 8, 1), 14);
        Checks.due("a tenth part", p.desk.cause(0, 9, 0), FiberDesk.REFUSED);
        int e = p.ensure(chain(p, 10, 5), chain(p, 20, 3));
        Checks.due("5 and 3", p.outcome(e, 0), "THEN " + chainText(10, 5) + " " + chainText(20, 3));
        int f = p.ensure(p.fail(1), chain(p, 20, 7));
        Checks.due("1 and 7", p.outcome(f, 0), "THEN FAIL 1 " + chainText(20, 7));
    }

    private static void thenOfEleven() {
        Program p = new Program();
        Checks.due("9 and 1", p.outcome(p.ensure(chain(p, 10, 9), p.fail(1)), 0), chainText(10, 9));
        Checks.due("7 and 3", p.outcome(p.ensure(chain(p, 10, 7), chain(p, 20, 3)), 0), chainText(10, 7));
    }

    private static void thenOfALongSecond() {
        Program p = new Program();
        Checks.due("1 and 9", p.outcome(p.ensure(p.fail(1), chain(p, 20, 9)), 0), "FAIL 1");
        Checks.due("3 and 7", p.outcome(p.ensure(chain(p, 1, 3), chain(p, 20, 7)), 0), chainText(1, 3));
        int folded = p.fold(p.ensure(p.fail(1), chain(p, 20, 9)), p.give(0), p.input(100));
        Checks.due("FAIL 1 alone is folded", p.outcome(folded, 0), "101");
    }

    private static void roomBehindACut() {
        Program p = new Program();
        int cut = p.ensure(chain(p, 10, 7), chain(p, 20, 3));
        Checks.due("7 and 3, then 1", p.outcome(p.ensure(cut, p.die(5)), 0), "THEN " + chainText(10, 7) + " DIE 5");
    }

    private static void bothOfNine() {
        Program p = new Program();
        int e = p.race(chain(p, 10, 5), chain(p, 20, 3));
        Checks.due("5 and 3", p.outcome(e, 0), "BOTH " + chainText(10, 5) + " " + chainText(20, 3));
        int f = p.race(p.die(1), chain(p, 20, 7));
        Checks.due("1 and 7", p.outcome(f, 0), "BOTH DIE 1 " + chainText(20, 7));
    }

    private static void bothOfEleven() {
        Program p = new Program();
        Checks.due("5 and 5", p.outcome(p.race(chain(p, 10, 5), chain(p, 20, 5)), 0), chainText(10, 5));
        Checks.due("1 and 9", p.outcome(p.race(p.die(1), chain(p, 20, 9)), 0), "DIE 1");
        Checks.due("9 and 1", p.outcome(p.race(chain(p, 10, 9), p.die(1)), 0), chainText(10, 9));
    }

    private static void bothCutIsOfX() {
        Program p = new Program();
        int late = p.then(p.sleep(3), chain(p, 10, 7));
        Checks.due("7 and 3", p.outcome(p.race(late, chain(p, 20, 3)), 0), chainText(10, 7));
    }

    /** Fiber 0 ENDs with THEN FAIL 1 DIE 2, fiber 1 with FAIL 6, fiber 2 with the VALUE 7. */
    private static Program ended() {
        Program p = new Program();
        p.start(p.then(p.fork(p.fail(6)), p.fork(p.give(7)), p.sleep(1), p.ensure(p.fail(1), p.die(2))), 0);
        p.runOut();
        Checks.due("fiber 0", p.exit(0), "THEN FAIL 1 DIE 2");
        Checks.due("fiber 1", p.exit(1), "FAIL 6");
        return p;
    }

    private static void noSuchFiber(int... wrong) {
        Program p = ended();
        for (int f : wrong) {
            Checks.due("cause(" + f + ", 0, 0)", p.desk.cause(f, 0, 0), FiberDesk.REFUSED);
            Checks.due("cause(" + f + ", 0, 1)", p.desk.cause(f, 0, 1), FiberDesk.REFUSED);
        }
    }

    private static void noSuchPart(int... wrong) {
        Program p = ended();
        for (int k : wrong) {
            Checks.due("cause(0, " + k + ", 0)", p.desk.cause(0, k, 0), FiberDesk.REFUSED);
            Checks.due("cause(0, " + k + ", 1)", p.desk.cause(0, k, 1), FiberDesk.REFUSED);
        }
        Checks.due("cause(1, 1, 0)", p.desk.cause(1, 1, 0), FiberDesk.REFUSED);
    }

    private static void noSuchWhat(int... wrong) {
        Program p = ended();
        for (int what : wrong) {
            Checks.due("cause(0, 0, " + what + ")", p.desk.cause(0, 0, what), FiberDesk.REFUSED);
            Checks.due("cause(1, 0, " + what + ")", p.desk.cause(1, 0, what), FiberDesk.REFUSED);
        }
    }

    private static void endedWithValue() {
        Program p = ended();
        Checks.due("fiber 2", p.exit(2), "7");
        Checks.due("cause(2, 0, 0)", p.desk.cause(2, 0, 0), FiberDesk.REFUSED);
        Checks.due("cause(2, 0, 1)", p.desk.cause(2, 0, 1), FiberDesk.REFUSED);
    }

    private static void notEnded() {
        Program p = new Program();
        p.start(p.mask(p.fail(8)), 0);
        for (int i = 0; i < 4; i++) {
            Checks.due("behind " + i + " STEPS", p.desk.cause(0, 0, 0), FiberDesk.REFUSED);
            Checks.due("its n behind " + i + " STEPS", p.desk.cause(0, 0, 1), FiberDesk.REFUSED);
            p.desk.run(1);
        }
        Checks.due("ENDED", p.desk.cause(0, 0, 1), 8);
        p.start(p.await(0), 0);
        p.runOut();
        Checks.due("of one that WAITS", p.desk.cause(0, 0, 0), FiberDesk.REFUSED);
    }

    private static void nothingStarted() {
        Program p = new Program();
        p.fail(1);
        Checks.due("cause(0, 0, 0)", p.desk.cause(0, 0, 0), FiberDesk.REFUSED);
        Checks.due("cause(0, 0, 1)", p.desk.cause(0, 0, 1), FiberDesk.REFUSED);
    }
}
