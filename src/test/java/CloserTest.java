/** Promise 4, the EFFECTS that close: ENSURE, BRACKET, SCOPE and CLOSE. */
public final class CloserTest {
    public static void main(String[] args) {
        Checks.edge(4, "ENSURE X Y: Y with v behind a VALUE", CloserTest::ensureOfAValue);
        Checks.edge(4, "ENSURE X Y: Y with v behind FAIL and DIE", CloserTest::ensureOfACause);
        Checks.edge(4, "ENSURE X Y: Y with v behind INTERRUPT", CloserTest::ensureOfAnInterrupt);
        Checks.edge(4, "ENSURE X Y: its STEPS, its FRAME stays while it CLOSES", CloserTest::ensureSteps);
        Checks.edge(4, "ENSURE: interrupted before X is begun Y is done", CloserTest::ensureInterruptedEarly);
        Checks.edge(4, "a CLOSER that ends with a VALUE changes nothing", CloserTest::closerOfAValue);
        Checks.edge(4, "a CLOSER that ends with c: c if it was a VALUE", CloserTest::causeBehindAValue);
        Checks.edge(4, "a CLOSER that ends with c: else THEN of it and c", CloserTest::causeBehindACause);
        Checks.edge(4, "CLOSERS are done MASKED", CloserTest::closersAreMasked);
        Checks.edge(4, "no more CLOSERS: MASKED or not as before", CloserTest::maskBehindClosers);
        Checks.edge(4, "BRACKET X Y Z: Y and Z with the VALUE of X", CloserTest::bracket);
        Checks.edge(4, "BRACKET X Y Z: Z behind a CAUSE of Y", CloserTest::bracketOfACause);
        Checks.edge(4, "BRACKET X Y Z: a CAUSE of X is RETURNed, no Y, no Z", CloserTest::bracketNotAcquired);
        Checks.edge(4, "BRACKET X Y Z: X MASKED, Y as before, Z MASKED", CloserTest::bracketMasks);
        Checks.edge(4, "BRACKET X Y Z: in a MASK all are MASKED", CloserTest::bracketInAMask);
        Checks.edge(4, "BRACKET X Y Z: an interrupt in X comes before Y, Z is done", CloserTest::bracketInterruptedInX);
        Checks.edge(4, "BRACKET X Y Z: an interrupt before X", CloserTest::bracketInterruptedBefore);
        Checks.edge(4, "SCOPE X: the latest first", CloserTest::latestFirst);
        Checks.edge(4, "SCOPE X: however it ends", CloserTest::scopeHoweverItEnds);
        Checks.edge(4, "SCOPE X: with nothing registered in the same STEP", CloserTest::emptyScope);
        Checks.edge(4, "SCOPE X: every CLOSER is done, though one fails", CloserTest::failingClosers);
        Checks.edge(4, "SCOPE X: MASKED from its first CLOSER to its last", CloserTest::scopeClosersAreMasked);
        Checks.edge(4, "CLOSE X: v, X with v is a CLOSER", CloserTest::closes);
        Checks.edge(4, "CLOSE X: in the innermost SCOPE", CloserTest::innermostScope);
        Checks.edge(4, "CLOSE X: in a SCOPE that is not closing", CloserTest::notInAClosingScope);
        Checks.edge(4, "CLOSE X: in a new SCOPE inside a closing one", CloserTest::newScopeInAClosingOne);
        Checks.edge(4, "CLOSE X: DIE -3 without a SCOPE", CloserTest::withoutScope);
        Checks.edge(4, "CLOSE X: DIE -3 behind the SCOPE", CloserTest::behindTheScope);
        Checks.edge(4, "CLOSE X: DIE -3 in a fiber forked in the SCOPE", CloserTest::forkedInTheScope);
        Checks.edge(4, "CLOSE X: the SCOPE has 4", CloserTest::fourClosers);
        Checks.edge(4, "CLOSE X: DIE -3 if it has 4", CloserTest::fifthCloser);
        Checks.edge(4, "CLOSE X: DIE -3 if it has 4, though one further out has room", CloserTest::fullInnermost);
        Checks.edge(4, "CLOSE X: each SCOPE has its own 4", CloserTest::ownFour);
        Checks.finish();
    }

    private static void ensureOfAValue() {
        Program p = new Program();
        Checks.due("ENSURE", p.outcome(p.ensure(p.give(1), p.print()), 5), "1");
        Checks.due("Y put out", p.output(), "5");
    }

    private static void ensureOfACause() {
        Program p = new Program();
        int print = p.print();
        Checks.due("of FAIL", p.outcome(p.ensure(p.fail(1), print), 6), "FAIL 1");
        Checks.due("Y put out", p.output(), "6");
        Checks.due("of DIE", p.outcome(p.ensure(p.die(1), print), 7), "DIE 1");
        Checks.due("Y put out", p.output(), "7");
    }

    private static void ensureOfAnInterrupt() {
        Program p = new Program();
        p.start(p.ensure(p.await(0), p.print()), 8);
        p.runOut();
        p.desk.interrupt(0);
        p.runOut();
        Checks.due("ENSURE", p.exit(0), "INTERRUPT -1");
        Checks.due("Y put out", p.output(), "8");
    }

    private static void ensureSteps() {
        Program p = new Program();
        p.start(p.ensure(p.give(1), p.give(2)), 0);
        int[] frames = {1, 1, 1, 1, 0, 0};
        for (int i = 0; i < frames.length; i++) {
            p.desk.run(1);
            Checks.due("FRAMES behind STEP " + (i + 1), p.desk.fiber(0, 2), frames[i]);
        }
        Checks.due("its end", p.exit(0), "1");
    }

    private static void ensureInterruptedEarly() {
        Program p = new Program();
        p.start(p.ensure(p.say(4), p.print()), 8);
        p.desk.run(1);
        p.desk.interrupt(0);
        p.runOut();
        Checks.due("Y alone put out", p.output(), "8");
        p.start(p.ensure(p.say(4), p.print()), 8);
        p.desk.interrupt(0);
        p.runOut();
        Checks.due("before ENSURE is begun nothing is", p.output(), "");
    }

    private static void closerOfAValue() {
        Program p = new Program();
        Checks.due("behind a VALUE", p.outcome(p.ensure(p.give(1), p.give(2)), 0), "1");
        Checks.due("behind a CAUSE", p.outcome(p.ensure(p.fail(1), p.give(2)), 0), "FAIL 1");
    }

    private static void causeBehindAValue() {
        Program p = new Program();
        Checks.due("ENSURE", p.outcome(p.ensure(p.give(1), p.fail(2)), 0), "FAIL 2");
        Checks.due("BRACKET", p.outcome(p.bracket(p.give(1), p.give(3), p.die(2)), 0), "DIE 2");
        Checks.due("SCOPE", p.outcome(p.scope(p.close(p.fail(9))), 0), "FAIL 9");
        Checks.due("it is folded", p.outcome(p.fold(p.ensure(p.give(1), p.fail(2)), p.give(0), p.input(5)), 0), "7");
    }

    private static void causeBehindACause() {
        Program p = new Program();
        Checks.due("ENSURE", p.outcome(p.ensure(p.die(1), p.fail(2)), 0), "THEN DIE 1 FAIL 2");
        Checks.due("BRACKET", p.outcome(p.bracket(p.give(1), p.fail(3), p.die(2)), 0), "THEN FAIL 3 DIE 2");
        int scope = p.scope(p.then(p.close(p.fail(9)), p.fail(1)));
        Checks.due("SCOPE", p.outcome(scope, 0), "THEN FAIL 1 FAIL 9");
    }

    private static void closersAreMasked() {
        Program p = new Program();
        p.start(p.ensure(p.give(1), p.then(p.yielding(), p.print())), 7);
        p.desk.run(2);
        Checks.due("MASKED behind X", p.desk.fiber(0, 1), 0);
        p.desk.run(1);
        Checks.due("MASKED when it CLOSES", p.desk.fiber(0, 1), 1);
        p.desk.interrupt(0);
        p.desk.run(4);
        Checks.due("pending", p.desk.fiber(0, 3), 1);
        p.runOut();
        Checks.due("the CLOSER put out", p.output(), "7");
        Checks.due("its end", p.exit(0), "INTERRUPT -1");
    }

    private static void maskBehindClosers() {
        Program p = new Program();
        int ensure = p.ensure(p.give(1), p.give(2));
        p.start(p.then(ensure, p.yielding()), 0);
        p.desk.run(6);
        Checks.due("FRAMES", p.desk.fiber(0, 2), 1);
        Checks.due("not MASKED as before", p.desk.fiber(0, 1), 0);
        p.start(p.mask(ensure), 0);
        p.desk.run(6);
        Checks.due("FRAMES", p.desk.fiber(0, 2), 1);
        Checks.due("MASKED as before", p.desk.fiber(0, 1), 1);
    }

    private static void bracket() {
        Program p = new Program();
        int release = p.then(p.input(100), p.print());
        Checks.due("BRACKET", p.outcome(p.bracket(p.input(10), p.input(1), release), 5), "16");
        Checks.due("Z put out", p.output(), "115");
    }

    private static void bracketOfACause() {
        Program p = new Program();
        int acquire = p.input(10);
        Checks.due("FAIL", p.outcome(p.bracket(acquire, p.fail(3), p.print()), 5), "FAIL 3");
        Checks.due("Z put out", p.output(), "15");
        p.start(p.bracket(acquire, p.await(0), p.print()), 5);
        p.runOut();
        p.desk.interrupt(0);
        p.runOut();
        Checks.due("INTERRUPT", p.exit(0), "INTERRUPT -1");
        Checks.due("Z put out", p.output(), "15");
    }

    private static void bracketNotAcquired() {
        Program p = new Program();
        int said = p.say(9);
        p.start(p.bracket(p.fail(4), said, said), 5);
        p.desk.run(3);
        Checks.due("not MASKED", p.desk.fiber(0, 1), 0);
        Checks.due("FRAMES", p.desk.fiber(0, 2), 0);
        p.runOut();
        Checks.due("its end", p.exit(0), "FAIL 4");
        Checks.due("put out", p.output(), "");
        Checks.due("STEPS", p.desk.count(3), 4);
        p.start(p.mask(p.bracket(p.fail(4), said, said)), 5);
        p.desk.run(4);
        Checks.due("MASKED as before", p.desk.fiber(0, 1), 1);
    }

    private static void bracketMasks() {
        Program p = new Program();
        int y = p.yielding();
        Checks.due("MASKED behind each STEP", p.masks(p.bracket(y, y, y)), "1100110");
    }

    private static void bracketInAMask() {
        Program p = new Program();
        int y = p.yielding();
        Checks.due("MASKED behind each STEP", p.masks(p.mask(p.bracket(y, y, y))), "111111110");
    }

    private static void bracketInterruptedInX() {
        Program p = new Program();
        int acquire = p.then(p.yielding(), p.give(6));
        p.start(p.bracket(acquire, p.say(9), p.print()), 5);
        p.desk.run(3);
        p.desk.interrupt(0);
        p.runOut();
        Checks.due("Z alone put out", p.output(), "6");
        Checks.due("its end", p.exit(0), "INTERRUPT -1");
        p.start(p.bracket(p.then(p.yielding(), p.fail(6)), p.say(9), p.print()), 5);
        p.desk.run(3);
        p.desk.interrupt(0);
        p.runOut();
        Checks.due("X fails: put out", p.output(), "");
        Checks.due("its end", p.exit(0), "INTERRUPT -1");
    }

    private static void bracketInterruptedBefore() {
        Program p = new Program();
        p.start(p.then(p.give(1), p.bracket(p.print(), p.print(), p.print())), 5);
        p.desk.run(3);
        p.desk.interrupt(0);
        p.runOut();
        Checks.due("put out", p.output(), "");
        Checks.due("its end", p.exit(0), "INTERRUPT -1");
    }

    /** CLOSE of PRINT, then one more: 5, 6, 7 are registered when it is done thrice with 5. */
    private static int register(Program p) {
        return p.then(p.close(p.print()), p.input(1));
    }

    private static void latestFirst() {
        Program p = new Program();
        int register = register(p);
        Checks.due("SCOPE", p.outcome(p.scope(p.then(register, register, register)), 5), "8");
        Checks.due("put out", p.output(), "7 6 5");
        Checks.due("STEPS", p.desk.count(3), 25);
    }

    private static void scopeHoweverItEnds() {
        Program p = new Program();
        int close = p.close(p.print());
        Checks.due("FAIL", p.outcome(p.scope(p.then(close, p.fail(1))), 5), "FAIL 1");
        Checks.due("put out", p.output(), "5");
        Checks.due("DIE", p.outcome(p.scope(p.then(close, p.die(1))), 5), "DIE 1");
        Checks.due("put out", p.output(), "5");
        p.start(p.scope(p.then(close, p.await(0))), 5);
        p.runOut();
        p.desk.interrupt(0);
        p.runOut();
        Checks.due("INTERRUPT", p.exit(0), "INTERRUPT -1");
        Checks.due("put out", p.output(), "5");
    }

    private static void emptyScope() {
        Program p = new Program();
        p.start(p.scope(p.give(2)), 0);
        p.desk.run(2);
        Checks.due("FRAMES behind X", p.desk.fiber(0, 2), 1);
        p.desk.run(1);
        Checks.due("FRAMES one STEP later", p.desk.fiber(0, 2), 0);
        Checks.due("not MASKED", p.desk.fiber(0, 1), 0);
        Checks.due("run(1)", p.desk.run(1), FiberDesk.DONE);
        Checks.due("its end", p.exit(0), "2");
        Checks.due("of a CAUSE", p.outcome(p.scope(p.fail(2)), 0), "FAIL 2");
        Checks.due("STEPS", p.desk.count(3), 4);
    }

    private static void failingClosers() {
        Program p = new Program();
        int e = p.scope(p.then(p.close(p.print()), p.close(p.fail(9)), p.close(p.die(8)), p.give(1)));
        Checks.due("SCOPE", p.outcome(e, 4), "THEN DIE 8 FAIL 9");
        Checks.due("put out", p.output(), "4");
    }

    private static void scopeClosersAreMasked() {
        Program p = new Program();
        int slow = p.then(p.yielding(), p.print());
        p.start(p.scope(p.then(p.close(slow), p.close(slow))), 7);
        p.desk.run(6);
        Checks.due("MASKED when it CLOSES", p.desk.fiber(0, 1), 1);
        p.desk.interrupt(0);
        for (int i = 0; i < 30 && p.desk.fiber(0, 2) > 0; i++) {
            Checks.due("MASKED", p.desk.fiber(0, 1), 1);
            p.desk.run(1);
        }
        p.runOut();
        Checks.due("put out", p.output(), "7 7");
        Checks.due("its end", p.exit(0), "INTERRUPT -1");
    }

    private static void closes() {
        Program p = new Program();
        p.start(p.scope(p.close(p.print())), 6);
        p.desk.run(2);
        Checks.due("X is not done at once", p.desk.count(4), 0);
        p.runOut();
        Checks.due("v", p.exit(0), "6");
        Checks.due("put out", p.output(), "6");
        Checks.due("STEPS", p.desk.count(3), 6);
    }

    private static void innermostScope() {
        Program p = new Program();
        int register = register(p);
        int inner = p.scope(p.then(register, p.give(50)));
        int outer = p.scope(p.then(register, inner, register, p.fail(3)));
        Checks.due("SCOPE", p.outcome(outer, 5), "FAIL 3");
        Checks.due("put out", p.output(), "6 50 5");
    }

    private static void notInAClosingScope() {
        Program p = new Program();
        int late = p.scope(p.close(p.close(p.print())));
        Checks.due("no other SCOPE", p.outcome(late, 1), "DIE -3");
        Checks.due("put out", p.output(), "");
        Checks.due("one further out", p.outcome(p.scope(p.then(late, p.say(2))), 1), "2");
        Checks.due("put out", p.output(), "2 1");
        int ensured = p.scope(p.ensure(p.give(3), p.close(p.print())));
        Checks.due("in a CLOSER of ENSURE", p.outcome(ensured, 4), "3");
        Checks.due("put out", p.output(), "4");
    }

    private static void newScopeInAClosingOne() {
        Program p = new Program();
        int closer = p.scope(p.then(p.close(p.print()), p.say(8)));
        Checks.due("SCOPE", p.outcome(p.scope(p.close(closer)), 3), "3");
        Checks.due("put out", p.output(), "8 3");
    }

    private static void withoutScope() {
        Program p = new Program();
        int close = p.close(p.print());
        Checks.due("alone", p.outcome(close, 1), "DIE -3");
        Checks.due("in other FRAMES", p.outcome(p.mask(p.ensure(close, p.give(1))), 1), "DIE -3");
        Checks.due("put out", p.output(), "");
    }

    private static void behindTheScope() {
        Program p = new Program();
        Checks.due("CLOSE", p.outcome(p.then(p.scope(p.give(1)), p.close(p.print())), 1), "DIE -3");
    }

    private static void forkedInTheScope() {
        Program p = new Program();
        int e = p.scope(p.then(p.fork(p.close(p.print())), p.join()));
        Checks.due("JOIN", p.outcome(e, 1), "DIE -3");
        Checks.due("put out", p.output(), "");
    }

    private static int four(Program p, int close) {
        return p.then(close, close, close, close);
    }

    private static void fourClosers() {
        Program p = new Program();
        Checks.due("SCOPE", p.outcome(p.scope(four(p, p.close(p.print()))), 6), "6");
        Checks.due("put out", p.output(), "6 6 6 6");
    }

    private static void fifthCloser() {
        Program p = new Program();
        int close = p.close(p.print());
        Checks.due("SCOPE", p.outcome(p.scope(p.then(four(p, close), close)), 6), "DIE -3");
        Checks.due("put out by the four", p.output(), "6 6 6 6");
    }

    private static void fullInnermost() {
        Program p = new Program();
        int close = p.close(p.print());
        int full = p.scope(p.then(four(p, close), close));
        Checks.due("SCOPE", p.outcome(p.scope(full), 6), "DIE -3");
        Checks.due("put out by the four", p.output(), "6 6 6 6");
    }

    private static void ownFour() {
        Program p = new Program();
        int four = four(p, p.close(p.print()));
        Checks.due("SCOPE", p.outcome(p.scope(p.then(four, p.scope(four))), 6), "6");
        Checks.due("ints put out", p.desk.count(4), 8);
        int scope = p.scope(four);
        Checks.due("one behind the other", p.outcome(p.then(scope, scope), 6), "6");
        Checks.due("ints put out", p.desk.count(4), 8);
    }
}
