/** Promises 4, 5 and 7: MASK and RESTORE, and when an interrupt is delivered. */
public final class MaskTest {
    public static void main(String[] args) {
        maskAndRestoreAreUndone();
        restoreLooksAtTheInnermostMask();
        maskedWorkIsNotInterrupted();
        restoredWorkIsInterrupted();
        onlyOneInterruptIsDelivered();
        deliveringReplacesWhatIsReturned();
        Checks.finish();
    }

    /** Does e, a tower of frames around one YIELD, and notes MASKED behind each step. */
    private static String masks(Program p, int e) {
        StringBuilder text = new StringBuilder();
        p.start(e, 0);
        while (p.desk.run(1) == FiberDesk.RUNNING) {
            text.append(p.desk.fiber(0, 1));
        }
        return text.toString();
    }

    private static void maskAndRestoreAreUndone() {
        Program p = new Program();
        int y = p.yielding();
        Checks.due("MASK", masks(p, p.mask(y)), "110");
        Checks.due("RESTORE alone", masks(p, p.restore(y)), "000");
        Checks.due("MASK RESTORE", masks(p, p.mask(p.restore(y))), "10010");
        Checks.due("MASK of FAIL", masks(p, p.mask(p.fail(1))), "110");
        Checks.due("MASK's value", p.outcome(p.mask(p.input(1)), 4), "5");
        Checks.due("RESTORE's value", p.outcome(p.restore(p.input(1)), 4), "5");
        Checks.due("RESTORE's cause", p.outcome(p.restore(p.die(1)), 4), "DIE 1");
        p.start(p.restore(y), 0);
        p.desk.run(1);
        Checks.due("RESTORE without MASK has a frame", p.desk.fiber(0, 2), 1);
    }

    private static void restoreLooksAtTheInnermostMask() {
        Program p = new Program();
        int y = p.yielding();
        Checks.due("MASK MASK RESTORE", masks(p, p.mask(p.mask(p.restore(y)))), "1111110");
        Checks.due("MASK RESTORE MASK RESTORE", masks(p, p.mask(p.restore(p.mask(p.restore(y))))), "101001010");
        Checks.due("MASK RESTORE RESTORE", masks(p, p.mask(p.restore(p.restore(y)))), "1000010");
        Checks.due("BRACKET's X is no MASK", masks(p, p.bracket(p.restore(y), y, y)), "111100110");
        Checks.due("RESTORE in a closer, in MASK", masks(p, p.mask(p.ensure(p.give(1), p.restore(y)))),
            "111100110");
        Checks.due("RESTORE in a closer alone", masks(p, p.ensure(p.give(1), p.restore(y))), "0011110");
    }

    private static void maskedWorkIsNotInterrupted() {
        Program p = new Program();
        int e = p.then(p.mask(p.then(p.yielding(), p.print())), p.print());
        p.start(e, 3);
        p.desk.run(3);
        Checks.due("interrupt", p.desk.interrupt(0), true);
        p.runOut();
        Checks.due("what was masked is done", p.output(), "3");
        Checks.due("then it is interrupted", p.exit(0), "INTERRUPT -1");
        p.start(p.mask(p.await(0)), 0);
        p.runOut();
        p.desk.interrupt(0);
        Checks.due("it waits on, masked", p.desk.fiber(0, 0), 1);
        Checks.due("pending", p.desk.fiber(0, 3), 1);
        Checks.due("it is not in the queue", p.queue(), "");
        Checks.due("it still waits for the promise", p.desk.cell(0, 4), 1);
        p.desk.keep(0, 5);
        Checks.due("then it is", p.queue(), "0");
        p.runOut();
        Checks.due("its end", p.exit(0), "INTERRUPT -1");
    }

    private static void restoredWorkIsInterrupted() {
        Program p = new Program();
        int e = p.mask(p.then(p.restore(p.await(1)), p.print()));
        p.start(e, 0);
        p.runOut();
        Checks.due("waits", p.desk.cell(1, 4), 1);
        p.desk.interrupt(0);
        Checks.due("waits no more", p.desk.cell(1, 4), 0);
        Checks.due("ready", p.queue(), "0");
        p.desk.keep(1, 6);
        Checks.due("once", p.queue(), "0");
        p.runOut();
        Checks.due("interrupted in RESTORE", p.exit(0), "INTERRUPT -1");
        Checks.due("nothing put out", p.output(), "");
    }

    private static void onlyOneInterruptIsDelivered() {
        Program p = new Program();
        int e = p.ensure(p.await(0), p.await(1));
        p.start(e, 0);
        p.runOut();
        p.desk.interrupt(0);
        p.runOut();
        Checks.due("it closes", p.desk.fiber(0, 7), 5);
        Checks.due("delivered", p.desk.fiber(0, 3), 2);
        Checks.due("a second interrupt is true", p.desk.interrupt(0), true);
        Checks.due("and does nothing", p.desk.fiber(0, 3), 2);
        Checks.due("it waits on", p.desk.fiber(0, 0), 1);
        p.desk.keep(1, 0);
        p.runOut();
        Checks.due("one cause", p.exit(0), "INTERRUPT -1");
        Checks.due("of the ended it is false", p.desk.interrupt(0), false);
        int outlives = p.fold(p.mask(p.restore(p.ensure(p.await(0), p.restore(p.await(1))))), e, e);
        p.start(outlives, 0);
        p.runOut();
        p.desk.interrupt(0);
        p.runOut();
        Checks.due("a closer restored is unmasked", p.desk.fiber(0, 1), 0);
        p.desk.interrupt(0);
        Checks.due("but not interrupted again", p.desk.fiber(0, 0), 1);
    }

    private static void deliveringReplacesWhatIsReturned() {
        Program p = new Program();
        p.start(p.then(p.fail(1), p.print()), 0);
        p.desk.run(2);
        p.desk.interrupt(0);
        Checks.due("pending at work", p.desk.fiber(0, 3), 1);
        Checks.due("at work", p.desk.count(6), 0);
        p.desk.run(1);
        Checks.due("delivering is a step", p.desk.fiber(0, 6), 3);
        Checks.due("delivered", p.desk.fiber(0, 3), 2);
        Checks.due("frames stay", p.desk.fiber(0, 2), 1);
        p.runOut();
        Checks.due("FAIL is forgotten", p.exit(0), "INTERRUPT -1");
        Checks.due("steps", p.desk.fiber(0, 6), 5);
        p.start(p.print(), 4);
        p.desk.interrupt(0);
        p.runOut();
        Checks.due("before its first step", p.exit(0), "INTERRUPT -1");
        Checks.due("nothing was begun", p.desk.count(4), 0);
        Checks.due("steps", p.desk.fiber(0, 6), 2);
    }
}
