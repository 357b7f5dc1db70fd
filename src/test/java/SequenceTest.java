/** Promises 2 and 4: the effects that neither wait nor close: GIVE to FOLD, YIELD, PRINT, PICK, and frames. */
public final class SequenceTest {
    public static void main(String[] args) {
        plainOnes();
        thenFollows();
        foldChooses();
        pickChooses();
        yieldEndsATurn();
        sixteenFrames();
        Checks.finish();
    }

    private static void plainOnes() {
        Program p = new Program();
        Checks.due("GIVE", p.outcome(p.give(-7), 3), "-7");
        Checks.due("INPUT", p.outcome(p.input(4), 3), "7");
        Checks.due("INPUT wraps", p.outcome(p.input(2), Integer.MAX_VALUE), String.valueOf(Integer.MIN_VALUE + 1));
        Checks.due("FAIL", p.outcome(p.fail(5), 3), "FAIL 5");
        Checks.due("DIE", p.outcome(p.die(-6), 3), "DIE -6");
        Checks.due("PRINT", p.outcome(p.print(), 9), "9");
        Checks.due("put out", p.output(), "9");
        Checks.due("steps of one plain effect", p.desk.count(3), 2);
    }

    private static void thenFollows() {
        Program p = new Program();
        Checks.due("THEN", p.outcome(p.then(p.input(1), p.input(10)), 5), "16");
        Checks.due("THEN has four more steps", p.desk.count(3), 5);
        Checks.due("THEN behind FAIL", p.outcome(p.then(p.fail(1), p.print()), 5), "FAIL 1");
        Checks.due("nothing put out", p.output(), "");
        p.start(p.then(p.give(1), p.yielding()), 0);
        p.desk.run(3);
        Checks.due("the frame of THEN goes before Y", p.desk.fiber(0, 2), 0);
    }

    private static void foldChooses() {
        Program p = new Program();
        int y = p.input(100);
        int z = p.input(1000);
        Checks.due("FOLD of a value", p.outcome(p.fold(p.input(1), y, z), 5), "106");
        Checks.due("FOLD of FAIL", p.outcome(p.fold(p.fail(7), y, z), 5), "1007");
        Checks.due("FOLD of DIE", p.outcome(p.fold(p.die(7), y, z), 5), "DIE 7");
        int two = p.ensure(p.fail(7), p.fail(8));
        Checks.due("FOLD of more than FAIL alone", p.outcome(p.fold(two, y, z), 5), "THEN FAIL 7 FAIL 8");
        int late = p.fold(p.give(1), p.fail(3), z);
        Checks.due("FOLD does not see Y's cause", p.outcome(late, 5), "FAIL 3");
        int again = p.fold(p.fail(1), y, p.fail(4));
        Checks.due("FOLD does not see Z's cause", p.outcome(again, 5), "FAIL 4");
        Program q = new Program();
        int stop = q.fold(q.yielding(), q.give(1), q.give(2));
        q.start(stop, 0);
        q.desk.run(1);
        q.desk.interrupt(0);
        q.runOut();
        Checks.due("FOLD of INTERRUPT", q.exit(0), "INTERRUPT -1");
    }

    private static void pickChooses() {
        Program p = new Program();
        int pick = p.pick(p.input(10), p.input(20));
        Checks.due("PICK of 1", p.outcome(pick, 1), "11");
        Checks.due("PICK of -1", p.outcome(pick, -1), "9");
        Checks.due("PICK of 0", p.outcome(pick, 0), "20");
        Checks.due("PICK is a step, without a frame", p.desk.count(3), 3);
    }

    private static void yieldEndsATurn() {
        Program p = new Program();
        Checks.due("YIELD", p.outcome(p.yielding(), 8), "8");
        Checks.due("turns", p.desk.count(5), 2);
        p.start(p.then(p.fork(p.say(1)), p.yielding()), 0);
        p.desk.run(4);
        Checks.due("behind YIELD it is at the back", p.queue(), "1 0");
        Checks.due("and not at work", p.desk.count(6), -1);
    }

    private static void sixteenFrames() {
        Program p = new Program();
        int e = p.give(5);
        for (int i = 0; i < 16; i++) {
            e = p.mask(e);
        }
        Checks.due("16 frames", p.outcome(e, 0), "5");
        int[] framed = {
            p.then(e, p.print()), p.fold(e, e, e), p.ensure(e, p.print()), p.bracket(e, e, e),
            p.mask(e), p.restore(e), p.scope(e)
        };
        for (int more : framed) {
            Checks.due("17 frames", p.outcome(more, 0), "DIE -4");
        }
        everyKindIsRefusedAtSixteen();
    }

    private static void everyKindIsRefusedAtSixteen() {
        for (int kind = 4; kind <= 10; kind++) {
            Program p = new Program();
            int give = p.give(5);
            int e = p.desk.effect(kind, give, give, give);
            for (int i = 0; i < 16; i++) {
                e = p.mask(e);
            }
            Checks.due("kind " + kind + " as the 17th frame", p.outcome(e, 0), "DIE -4");
            p.start(e, 0);
            p.desk.run(16);
            Checks.due("frames", p.desk.fiber(0, 2), 16);
            p.desk.run(1);
            Checks.due("frames behind the one refused", p.desk.fiber(0, 2), 16);
        }
    }
}
