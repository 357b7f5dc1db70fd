/** Promise 4, the EFFECTS that neither WAIT nor close: GIVE, INPUT, FAIL, DIE, THEN, FOLD, YIELD, PRINT, PICK. */
public final class SequenceTest {
    public static void main(String[] args) {
        Checks.edge(4, "GIVE n: n, any int", SequenceTest::give);
        Checks.edge(4, "INPUT n: v + n", SequenceTest::input);
        Checks.edge(4, "INPUT n: v + n wraps above", SequenceTest::inputWrapsAbove);
        Checks.edge(4, "INPUT n: v + n wraps below", SequenceTest::inputWrapsBelow);
        Checks.edge(4, "FAIL n and DIE n", SequenceTest::failAndDie);
        Checks.edge(4, "without FRAMES it has ENDED: STEPS of one plain EFFECT", SequenceTest::plainSteps);
        Checks.edge(4, "THEN X Y: Y with the VALUE of X", SequenceTest::thenFollows);
        Checks.edge(4, "THEN X Y: a CAUSE of X is RETURNed", SequenceTest::thenOfACause);
        Checks.edge(4, "THEN X Y: its FRAME goes before Y", SequenceTest::thenFrameGoes);
        Checks.edge(4, "FOLD X Y Z: behind a VALUE Y with that", SequenceTest::foldOfAValue);
        Checks.edge(4, "FOLD X Y Z: behind FAIL n alone Z with n", SequenceTest::foldOfFail);
        Checks.edge(4, "FOLD X Y Z: DIE n is RETURNed", SequenceTest::foldOfDie);
        Checks.edge(4, "FOLD X Y Z: INTERRUPT is RETURNed", SequenceTest::foldOfInterrupt);
        Checks.edge(4, "FOLD X Y Z: THEN is not FAIL n alone", SequenceTest::foldOfThen);
        Checks.edge(4, "FOLD X Y Z: BOTH is not FAIL n alone", SequenceTest::foldOfBoth);
        Checks.edge(4, "FOLD X Y Z: a CAUSE of Y or Z is RETURNed", SequenceTest::foldOfItsOwn);
        Checks.edge(4, "FOLD X Y Z: its FRAME goes before Y and Z", SequenceTest::foldFrameGoes);
        Checks.edge(4, "YIELD: v; its TURN is over", SequenceTest::yields);
        Checks.edge(4, "PRINT: v, which is put out", SequenceTest::prints);
        Checks.edge(4, "PICK X Y: X if v is not 0", SequenceTest::picksX);
        Checks.edge(4, "PICK X Y: Y if v is 0", SequenceTest::picksY);
        Checks.edge(4, "PICK X Y: a STEP, no FRAME", SequenceTest::pickHasNoFrame);
        Checks.finish();
    }

    private static void give() {
        Program p = new Program();
        for (int n : new int[] {0, -1, Integer.MIN_VALUE, Integer.MAX_VALUE}) {
            Checks.due("GIVE " + n, p.outcome(p.give(n), 3), String.valueOf(n));
        }
    }

    private static void input() {
        Program p = new Program();
        Checks.due("3 + 4", p.outcome(p.input(4), 3), "7");
        Checks.due("3 - 4", p.outcome(p.input(-4), 3), "-1");
        Checks.due("3 + 0", p.outcome(p.input(0), 3), "3");
    }

    private static void inputWrapsAbove() {
        Program p = new Program();
        Checks.due("the largest + 1", p.outcome(p.input(1), Integer.MAX_VALUE), String.valueOf(Integer.MIN_VALUE));
        Checks.due("twice the largest", p.outcome(p.input(Integer.MAX_VALUE), Integer.MAX_VALUE), "-2");
    }

    private static void inputWrapsBelow() {
        Program p = new Program();
        Checks.due("the smallest - 1", p.outcome(p.input(-1), Integer.MIN_VALUE), String.valueOf(Integer.MAX_VALUE));
        Checks.due("twice the smallest", p.outcome(p.input(Integer.MIN_VALUE), Integer.MIN_VALUE), "0");
    }

    private static void failAndDie() {
        Program p = new Program();
        Checks.due("FAIL 5", p.outcome(p.fail(5), 3), "FAIL 5");
        Checks.due("DIE -6", p.outcome(p.die(-6), 3), "DIE -6");
    }

    private static void plainSteps() {
        Program p = new Program();
        for (int e : new int[] {p.give(1), p.input(1), p.fail(1), p.die(1), p.print()}) {
            p.start(e, 0);
            Checks.due("one STEP", p.desk.run(1), FiberDesk.RUNNING);
            Checks.due("two STEPS", p.desk.run(1), FiberDesk.DONE);
            Checks.due("TURNS", p.desk.count(5), 1);
        }
    }

    private static void thenFollows() {
        Program p = new Program();
        Checks.due("THEN", p.outcome(p.then(p.input(1), p.input(10)), 5), "16");
        Checks.due("STEPS", p.desk.count(3), 5);
        Checks.due("Y fails", p.outcome(p.then(p.give(1), p.fail(2)), 5), "FAIL 2");
    }

    private static void thenOfACause() {
        Program p = new Program();
        for (int kind : new int[] {2, 3}) {
            int x = p.desk.effect(kind, 1, 0, 0);
            Checks.due("THEN", p.outcome(p.then(x, p.print()), 5), kind == 2 ? "FAIL 1" : "DIE 1");
            Checks.due("Y was not done", p.output(), "");
            Checks.due("STEPS", p.desk.count(3), 4);
        }
    }

    private static void thenFrameGoes() {
        Program p = new Program();
        p.start(p.then(p.give(1), p.yielding()), 0);
        p.desk.run(2);
        Checks.due("FRAMES before the VALUE comes", p.desk.fiber(0, 2), 1);
        p.desk.run(1);
        Checks.due("FRAMES before Y is begun", p.desk.fiber(0, 2), 0);
    }

    private static void foldOfAValue() {
        Program p = new Program();
        int e = p.fold(p.input(1), p.input(100), p.say(9));
        Checks.due("FOLD", p.outcome(e, 5), "106");
        Checks.due("Z was not done", p.output(), "");
        Checks.due("STEPS", p.desk.count(3), 5);
    }

    private static void foldOfFail() {
        Program p = new Program();
        int y = p.say(9);
        int z = p.input(1000);
        for (int n : new int[] {7, 0, -1, Integer.MIN_VALUE}) {
            Checks.due("FOLD of FAIL " + n, p.outcome(p.fold(p.fail(n), y, z), 5), String.valueOf(1000 + n));
            Checks.due("Y was not done", p.output(), "");
        }
    }

    private static void foldOfDie() {
        Program p = new Program();
        int said = p.say(9);
        Checks.due("FOLD", p.outcome(p.fold(p.die(7), said, said), 5), "DIE 7");
        Checks.due("neither Y nor Z was done", p.output(), "");
    }

    private static void foldOfInterrupt() {
        Program p = new Program();
        int said = p.say(9);
        p.start(p.fold(p.await(0), said, said), 0);
        p.runOut();
        p.desk.interrupt(0);
        p.runOut();
        Checks.due("FOLD", p.exit(0), "INTERRUPT -1");
        Checks.due("neither Y nor Z was done", p.output(), "");
    }

    private static void foldOfThen() {
        Program p = new Program();
        int two = p.ensure(p.fail(7), p.fail(8));
        Checks.due("FOLD", p.outcome(p.fold(two, p.give(1), p.give(2)), 5), "THEN FAIL 7 FAIL 8");
    }

    private static void foldOfBoth() {
        Program p = new Program();
        int both = p.race(p.fail(1), p.fail(1));
        Checks.due("FOLD", p.outcome(p.fold(both, p.give(1), p.give(2)), 5), "BOTH FAIL 1 FAIL 1");
    }

    private static void foldOfItsOwn() {
        Program p = new Program();
        int z = p.input(1000);
        Checks.due("of Y", p.outcome(p.fold(p.give(1), p.fail(3), z), 5), "FAIL 3");
        Checks.due("of Z", p.outcome(p.fold(p.fail(1), z, p.fail(4)), 5), "FAIL 4");
    }

    private static void foldFrameGoes() {
        Program p = new Program();
        for (int x : new int[] {p.give(1), p.fail(1)}) {
            p.start(p.fold(x, p.yielding(), p.yielding()), 0);
            p.desk.run(2);
            Checks.due("FRAMES before the EXIT comes", p.desk.fiber(0, 2), 1);
            p.desk.run(1);
            Checks.due("FRAMES then", p.desk.fiber(0, 2), 0);
        }
    }

    private static void yields() {
        Program p = new Program();
        p.start(p.yielding(), 8);
        p.desk.run(1);
        Checks.due("at work", p.desk.count(6), -1);
        Checks.due("READY", p.desk.fiber(0, 0), 0);
        Checks.due("the QUEUE", p.queue(), "0");
        p.runOut();
        Checks.due("its end", p.exit(0), "8");
        Checks.due("TURNS", p.desk.count(5), 2);
    }

    private static void prints() {
        Program p = new Program();
        Checks.due("PRINT", p.outcome(p.print(), 9), "9");
        Checks.due("put out", p.output(), "9");
        int print = p.print();
        Checks.due("PRINT twice", p.outcome(p.then(print, p.input(1), print), 9), "10");
        Checks.due("put out", p.output(), "9 10");
    }

    private static void picksX() {
        Program p = new Program();
        int pick = p.pick(p.input(10), p.input(20));
        Checks.due("of 1", p.outcome(pick, 1), "11");
        Checks.due("of -1", p.outcome(pick, -1), "9");
        Checks.due("of the smallest", p.outcome(pick, Integer.MIN_VALUE), String.valueOf(Integer.MIN_VALUE + 10));
    }

    private static void picksY() {
        Program p = new Program();
        Checks.due("of 0", p.outcome(p.pick(p.input(10), p.input(20)), 0), "20");
    }

    private static void pickHasNoFrame() {
        Program p = new Program();
        p.start(p.pick(p.input(10), p.input(20)), 0);
        p.desk.run(1);
        Checks.due("FRAMES", p.desk.fiber(0, 2), 0);
        Checks.due("STEPS to its end", p.desk.run(2), FiberDesk.DONE);
        Checks.due("STEPS", p.desk.count(3), 3);
    }
}
