/** Promise 1: a new object has no effects and nothing is started. */
public final class NewObjectTest {
    public static void main(String[] args) {
        FiberDesk desk = new FiberDesk();
        answersAsNew(desk);
        FiberDesk other = new FiberDesk();
        other.effect(0, 1, 0, 0);
        other.start(0, 0);
        answersAsNew(desk);
        Checks.finish();
    }

    private static void answersAsNew(FiberDesk desk) {
        for (int what = 0; what <= 5; what++) {
            Checks.due("count(" + what + ")", desk.count(what), 0);
        }
        Checks.due("count(6)", desk.count(6), -1);
        Checks.due("count(7)", desk.count(7), -1);
        Checks.due("start", desk.start(0, 0), false);
        Checks.due("run", desk.run(1), FiberDesk.REFUSED);
        Checks.due("interrupt", desk.interrupt(0), false);
        Checks.due("keep", desk.keep(0, 1), false);
        Checks.due("fiber", desk.fiber(0, 0), FiberDesk.REFUSED);
        Checks.due("cause", desk.cause(0, 0, 0), FiberDesk.REFUSED);
        Checks.due("queued", desk.queued(0), FiberDesk.REFUSED);
        Checks.due("printed", desk.printed(0), 0);
        Checks.due("cell", desk.cell(0, 3), FiberDesk.REFUSED);
    }
}
