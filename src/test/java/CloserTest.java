/** Promises 2, 4 and 8: ENSURE, BRACKET, SCOPE and CLOSE; what closers do to exits. */
public final class CloserTest {
    public static void main(String[] args) {
        ensureCloses();
        bracketReleases();
        bracketMasksAcquiring();
        scopeCloses();
        closeNeedsAnOpenScope();
        closersAreMasked();
        causesAreAtMostNine();
        Checks.finish();
    }

    private static void ensureCloses() {
        Program p = new Program();
        int print = p.print();
        Checks.due("ENSURE of a value", p.outcome(p.ensure(p.give(1), print), 5), "1");
        Checks.due("Y has the input", p.output(), "5");
        Checks.due("ENSURE of a cause", p.outcome(p.ensure(p.fail(1), print), 6), "FAIL 1");
        Checks.due("Y has the input", p.output(), "6");
        Checks.due("Y fails behind a value", p.outcome(p.ensure(p.give(1), p.fail(2)), 0), "FAIL 2");
        Checks.due("Y fails behind a cause", p.outcome(p.ensure(p.die(1), p.fail(2)), 0), "THEN DIE 1 FAIL 2");
        p.start(p.ensure(p.give(1), p.give(2)), 0);
        p.desk.run(3);
        Checks.due("the frame stays while closing", p.desk.fiber(0, 2), 1);
        p.desk.run(2);
        Checks.due("the frame goes with the last closer", p.desk.fiber(0, 2), 0);
        p.runOut();
        Checks.due("steps of ENSURE", p.desk.count(3), 6);
    }

    private static void bracketReleases() {
        Program p = new Program();
        int acquire = p.input(10);
        int release = p.then(p.input(100), p.print());
        Checks.due("BRACKET", p.outcome(p.bracket(acquire, p.input(1), release), 5), "16");
        Checks.due("Z has X's value", p.output(), "115");
        Checks.due("Y fails", p.outcome(p.bracket(acquire, p.fail(3), release), 5), "FAIL 3");
        Checks.due("Z is done", p.output(), "115");
        Checks.due("X fails", p.outcome(p.bracket(p.fail(4), p.print(), release), 5), "FAIL 4");
        Checks.due("neither Y nor Z", p.output(), "");
        Checks.due("Y and Z fail", p.outcome(p.bracket(acquire, p.fail(3), p.die(2)), 5), "THEN FAIL 3 DIE 2");
        Checks.due("Z fails alone", p.outcome(p.bracket(acquire, p.give(3), p.die(2)), 5), "DIE 2");
    }

    private static void bracketMasksAcquiring() {
        Program p = new Program();
        int e = p.bracket(p.yielding(), p.yielding(), p.yielding());
        p.start(e, 0);
        int[] masked = {1, 1, 0, 0, 1, 1, 0, 0};
        for (int i = 0; i < masked.length; i++) {
            p.desk.run(1);
            Checks.due("BRACKET masked behind step " + (i + 1), p.desk.fiber(0, 1), masked[i]);
        }
        p.start(p.bracket(p.fail(1), p.give(1), p.give(1)), 0);
        p.desk.run(3);
        Checks.due("the mask behind a cause of X", p.desk.fiber(0, 1), 0);
        Checks.due("the frame behind a cause of X", p.desk.fiber(0, 2), 0);
        p.start(p.mask(e), 0);
        for (int i = 0; i < 8; i++) {
            p.desk.run(1);
            Checks.due("BRACKET in MASK, step " + (i + 1), p.desk.fiber(0, 1), 1);
        }
    }

    private static void scopeCloses() {
        Program p = new Program();
        int print = p.print();
        int register = p.then(p.close(print), p.input(1));
        int three = p.scope(p.then(register, register, register));
        Checks.due("SCOPE", p.outcome(three, 5), "8");
        Checks.due("the latest first", p.output(), "7 6 5");
        Checks.due("SCOPE without closers", p.outcome(p.scope(p.give(2)), 0), "2");
        Checks.due("in the same step", p.desk.count(3), 4);
        int inner = p.scope(p.then(register, p.give(50)));
        int outer = p.scope(p.then(register, inner, register, p.fail(3)));
        Checks.due("scopes in scopes", p.outcome(outer, 5), "FAIL 3");
        Checks.due("each closes its own", p.output(), "6 50 5");
        int failing = p.close(p.fail(9));
        int many = p.scope(p.then(failing, p.close(p.die(8)), p.give(1)));
        Checks.due("closers that fail", p.outcome(many, 0), "THEN DIE 8 FAIL 9");
        Checks.due("a closer that fails alone", p.outcome(p.scope(failing), 4), "FAIL 9");
    }

    private static void closeNeedsAnOpenScope() {
        Program p = new Program();
        int close = p.close(p.print());
        Checks.due("CLOSE without SCOPE", p.outcome(close, 1), "DIE -3");
        int four = p.then(close, close, close, close);
        Checks.due("four closers", p.outcome(p.scope(four), 6), "6");
        Checks.due("all four are done", p.output(), "6 6 6 6");
        Checks.due("a fifth closer", p.outcome(p.scope(p.then(four, close)), 6), "DIE -3");
        Checks.due("the four are done then", p.output(), "6 6 6 6");
        int late = p.scope(p.close(close));
        Checks.due("CLOSE in a closing scope", p.outcome(late, 1), "DIE -3");
        Checks.due("... registers further out", p.outcome(p.scope(late), 1), "1");
        Checks.due("and is done there", p.output(), "1");
        Checks.due("a full scope hides others", p.outcome(p.scope(p.scope(p.then(four, close))), 6), "DIE -3");
        int forked = p.scope(p.then(p.fork(close), p.join()));
        Checks.due("a fork is in no scope of its parent", p.outcome(forked, 1), "DIE -3");
    }

    private static void closersAreMasked() {
        Program p = new Program();
        int slow = p.then(p.yielding(), p.print());
        p.start(p.ensure(p.give(1), slow), 7);
        p.desk.run(3);
        Checks.due("masked while closing", p.desk.fiber(0, 1), 1);
        p.desk.interrupt(0);
        p.desk.run(4);
        Checks.due("still pending", p.desk.fiber(0, 3), 1);
        p.runOut();
        Checks.due("the closer was done", p.output(), "7");
        Checks.due("delivered behind it", p.exit(0), "INTERRUPT -1");
        p.start(p.scope(p.then(p.close(slow), p.close(slow))), 7);
        p.desk.run(8);
        Checks.due("a scope's closers are masked", p.desk.fiber(0, 1), 1);
        p.desk.interrupt(0);
        p.runOut();
        Checks.due("both closers were done", p.output(), "7 7");
        Checks.due("delivered behind both", p.exit(0), "INTERRUPT -1");
    }

    private static void causesAreAtMostNine() {
        Program p = new Program();
        int e = p.fail(0);
        StringBuilder text = new StringBuilder("FAIL 0");
        for (int i = 1; i <= 4; i++) {
            e = p.ensure(e, p.fail(i));
            text.insert(0, "THEN ").append(" FAIL ").append(i);
        }
        Checks.due("nine parts", p.outcome(e, 0), text.toString());
        Checks.due("the ninth part", p.desk.cause(0, 8, 1), 4);
        Checks.due("THEN of more is its first part", p.outcome(p.ensure(e, p.fail(5)), 0), text.toString());
        int small = p.ensure(p.fail(6), p.fail(7));
        Checks.due("also if the second is the long one", p.outcome(p.ensure(small, e), 0), "THEN FAIL 6 FAIL 7");
        int five = p.ensure(small, p.fail(8));
        Checks.due("5 and 3 are 9", p.outcome(p.ensure(five, small), 0),
            "THEN THEN THEN FAIL 6 FAIL 7 FAIL 8 THEN FAIL 6 FAIL 7");
        Checks.due("BOTH of 5 and 3", p.outcome(p.race(five, small), 0),
            "BOTH THEN THEN FAIL 6 FAIL 7 FAIL 8 THEN FAIL 6 FAIL 7");
        Checks.due("BOTH of 5 and 5 is X's", p.outcome(p.race(five, five), 0), "THEN THEN FAIL 6 FAIL 7 FAIL 8");
    }
}
