/** Promises 4 and 7: MASK and RESTORE. */
public final class MaskTest {
    public static void main(String[] args) {
        Checks.edge(4, "MASK X: X with v, MASKED", MaskTest::mask);
        Checks.edge(4, "MASK X: MASKED or not as before behind a VALUE", MaskTest::undoneByAValue);
        Checks.edge(4, "MASK X: MASKED or not as before behind a CAUSE", MaskTest::undoneByACause);
        Checks.edge(4, "MASK X in a MASK: MASKED behind it too", MaskTest::maskInMask);
        Checks.edge(4, "RESTORE X: X with v", MaskTest::restore);
        Checks.edge(4, "RESTORE X: as before the innermost MASK: not MASKED", MaskTest::restoreInOneMask);
        Checks.edge(4, "RESTORE X: as before the innermost MASK: MASKED", MaskTest::restoreInTwoMasks);
        Checks.edge(4, "RESTORE X: the MASK of a RESTORE around", MaskTest::masksAndRestores);
        Checks.edge(4, "RESTORE X in a RESTORE", MaskTest::restoreInRestore);
        Checks.edge(4, "RESTORE X without a MASK, as it is: not MASKED", MaskTest::restoreAlone);
        Checks.edge(4, "RESTORE X without a MASK, as it is: MASKED in a CLOSER", MaskTest::restoreInACloser);
        Checks.edge(4, "RESTORE X without a MASK, as it is: MASKED in X of a BRACKET", MaskTest::restoreInABracket);
        Checks.edge(4, "RESTORE X behind a MASK that has gone", MaskTest::restoreBehindAMask);
        Checks.edge(4, "RESTORE X in a CLOSER in a MASK", MaskTest::restoreInACloserInAMask);
        Checks.edge(4, "RESTORE X: an interrupt that is pending comes there", MaskTest::pendingComesInRestore);
        Checks.edge(4, "RESTORE X: one that WAITS there is interrupted", MaskTest::waitingInRestore);
        Checks.finish();
    }

    private static void mask() {
        Program p = new Program();
        Checks.due("MASK", p.outcome(p.mask(p.input(1)), 4), "5");
        Checks.due("of a CAUSE", p.outcome(p.mask(p.fail(1)), 4), "FAIL 1");
        Checks.due("STEPS", p.desk.count(3), 4);
    }

    private static void undoneByAValue() {
        Program p = new Program();
        Checks.due("MASKED", p.masks(p.mask(p.yielding())), "110");
    }

    private static void undoneByACause() {
        Program p = new Program();
        Checks.due("MASKED", p.masks(p.mask(p.die(1))), "110");
        Checks.due("RESTORE", p.masks(p.mask(p.restore(p.die(1)))), "10010");
    }

    private static void maskInMask() {
        Program p = new Program();
        Checks.due("MASKED", p.masks(p.mask(p.mask(p.yielding()))), "11110");
    }

    private static void restore() {
        Program p = new Program();
        Checks.due("RESTORE", p.outcome(p.restore(p.input(1)), 4), "5");
        Checks.due("of a CAUSE", p.outcome(p.restore(p.die(1)), 4), "DIE 1");
        Checks.due("STEPS", p.desk.count(3), 4);
    }

    private static void restoreInOneMask() {
        Program p = new Program();
        Checks.due("MASKED", p.masks(p.mask(p.restore(p.yielding()))), "10010");
    }

    private static void restoreInTwoMasks() {
        Program p = new Program();
        Checks.due("MASKED", p.masks(p.mask(p.mask(p.restore(p.yielding())))), "1111110");
    }

    private static void masksAndRestores() {
        Program p = new Program();
        int e = p.mask(p.restore(p.mask(p.restore(p.yielding()))));
        Checks.due("MASKED", p.masks(e), "101001010");
    }

    private static void restoreInRestore() {
        Program p = new Program();
        Checks.due("MASKED", p.masks(p.mask(p.restore(p.restore(p.yielding())))), "1000010");
    }

    private static void restoreAlone() {
        Program p = new Program();
        Checks.due("MASKED", p.masks(p.restore(p.yielding())), "000");
        p.start(p.restore(p.yielding()), 0);
        p.desk.run(1);
        Checks.due("FRAMES", p.desk.fiber(0, 2), 1);
    }

    private static void restoreInACloser() {
        Program p = new Program();
        Checks.due("MASKED", p.masks(p.ensure(p.give(1), p.restore(p.yielding()))), "0011110");
    }

    private static void restoreInABracket() {
        Program p = new Program();
        int y = p.yielding();
        Checks.due("MASKED", p.masks(p.bracket(p.restore(y), y, y)), "111100110");
    }

    private static void restoreBehindAMask() {
        Program p = new Program();
        int y = p.yielding();
        Checks.due("MASKED", p.masks(p.ensure(y, p.then(p.mask(y), p.restore(y)))), "001111111110");
    }

    private static void restoreInACloserInAMask() {
        Program p = new Program();
        int e = p.mask(p.ensure(p.give(1), p.restore(p.yielding())));
        Checks.due("MASKED", p.masks(e), "111100110");
    }

    private static void pendingComesInRestore() {
        Program p = new Program();
        p.start(p.mask(p.then(p.yielding(), p.print(), p.restore(p.print()), p.print())), 3);
        p.desk.run(5);
        p.desk.interrupt(0);
        p.runOut();
        Checks.due("put out", p.output(), "3");
        Checks.due("its end", p.exit(0), "INTERRUPT -1");
    }

    private static void waitingInRestore() {
        Program p = new Program();
        p.start(p.mask(p.then(p.restore(p.await(1)), p.print())), 0);
        p.runOut();
        Checks.due("WAIT for promise 1", p.desk.cell(1, 4), 1);
        p.desk.interrupt(0);
        Checks.due("WAIT for it then", p.desk.cell(1, 4), 0);
        Checks.due("the QUEUE", p.queue(), "0");
        p.desk.keep(1, 6);
        Checks.due("the QUEUE behind keep", p.queue(), "0");
        p.runOut();
        Checks.due("its end", p.exit(0), "INTERRUPT -1");
        Checks.due("put out", p.output(), "");
    }
}
