/** Promise 1: a new object. */
public final class NewObjectTest {
    public static void main(String[] args) {
        Checks.edge(1, "no EFFECTS", NewObjectTest::noEffects);
        Checks.edge(1, "nothing is started", NewObjectTest::nothingIsStarted);
        Checks.edge(1, "nothing is started by EFFECTS alone", NewObjectTest::effectsStartNothing);
        Checks.edge(1, "nothing is started by refused calls", NewObjectTest::refusedCallsStartNothing);
        Checks.edge(1, "each object has its own", NewObjectTest::objectsAreApart);
        Checks.edge(1, "used for at most 512 calls: the 512th answers", NewObjectTest::callsToTheLast);
        Checks.finish();
    }

    private static void noEffects() {
        FiberDesk desk = new FiberDesk();
        Checks.due("count(0)", desk.count(0), 0);
        Checks.due("start(0, 0)", desk.start(0, 0), false);
        Checks.due("MASK of 0", desk.effect(8, 0, 0, 0), FiberDesk.REFUSED);
        Checks.due("the first number", desk.effect(0, 0, 0, 0), 0);
    }

    private static void answersAsNotStarted(FiberDesk desk) {
        for (int what = 1; what <= 5; what++) {
            Checks.due("count(" + what + ")", desk.count(what), 0);
        }
        Checks.due("count(6)", desk.count(6), -1);
        Checks.due("count(7)", desk.count(7), -1);
        Checks.due("run(1)", desk.run(1), FiberDesk.REFUSED);
        Checks.due("interrupt(0)", desk.interrupt(0), false);
        Checks.due("keep(0, 1)", desk.keep(0, 1), false);
        Checks.due("fiber(0, 0)", desk.fiber(0, 0), FiberDesk.REFUSED);
        Checks.due("cause(0, 0, 0)", desk.cause(0, 0, 0), FiberDesk.REFUSED);
        Checks.due("queued(0)", desk.queued(0), FiberDesk.REFUSED);
        Checks.due("printed(0)", desk.printed(0), 0);
        Checks.due("cell(0, 3)", desk.cell(0, 3), FiberDesk.REFUSED);
    }

    private static void nothingIsStarted() {
        answersAsNotStarted(new FiberDesk());
    }

    private static void effectsStartNothing() {
        FiberDesk desk = new FiberDesk();
        desk.effect(18, 0, 0, 0);
        desk.effect(8, 0, 0, 0);
        answersAsNotStarted(desk);
    }

    private static void refusedCallsStartNothing() {
        FiberDesk desk = new FiberDesk();
        desk.start(0, 0);
        desk.start(-1, 0);
        desk.run(20);
        desk.keep(0, 5);
        desk.effect(26, 0, 0, 0);
        answersAsNotStarted(desk);
        desk.effect(21, 0, 0, 0);
        desk.start(0, 0);
        Checks.due("promise 0 behind a keep before the start", desk.cell(0, 1), 0);
    }

    private static void objectsAreApart() {
        FiberDesk desk = new FiberDesk();
        FiberDesk other = new FiberDesk();
        other.effect(18, 0, 0, 0);
        other.start(0, 5);
        other.run(20);
        Checks.due("count(0)", desk.count(0), 0);
        answersAsNotStarted(desk);
        Checks.due("the other one's", other.printed(0), 5);
    }

    /** An object that works hard up to its last call: 14 EFFECTS, a start, 496 times 20 STEPS, an answer. */
    private static void callsToTheLast() {
        FiberDesk desk = new FiberDesk();
        desk.effect(1, 1, 0, 0);
        for (int e = 0; e < 13; e++) {
            desk.effect(4, e, e, 0);
        }
        Checks.due("start", desk.start(13, 0), true);
        for (int call = 16; call <= 510; call++) {
            desk.run(20);
        }
        Checks.due("call 511, run(20)", desk.run(20), FiberDesk.RUNNING);
        Checks.due("call 512, STEPS", desk.count(3), 496 * 20);
    }
}
