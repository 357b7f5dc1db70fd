/** Promise 9: queued. */
public final class QueuedTest {
    public static void main(String[] args) {
        Program p = new Program();
        int y = p.yielding();
        int fork = p.fork(p.then(y, y));
        int e = p.then(fork, fork, fork);
        Checks.due("nothing is started", p.desk.queued(0), FiberDesk.REFUSED);
        p.start(e, 0);
        Checks.due("fiber 0", p.desk.queued(0), 0);
        Checks.due("no more", p.desk.queued(1), FiberDesk.REFUSED);
        p.desk.run(3);
        Checks.due("one at work is not in it", p.queue(), "1");
        p.desk.run(2);
        Checks.due("the parent behind its five steps", p.queue(), "1 2 0");
        p.desk.run(2);
        Checks.due("a YIELD", p.queue(), "2 0 1");
        int[] wrongs = {-1, 3, 10, Integer.MIN_VALUE, Integer.MAX_VALUE};
        for (int k : wrongs) {
            Checks.due("queued(" + k + ")", p.desk.queued(k), FiberDesk.REFUSED);
        }
        p.desk.run(2);
        Checks.due("another YIELD", p.queue(), "0 1 2");
        p.desk.run(1);
        Checks.due("0 is at work", p.queue(), "1 2");
        p.desk.run(1);
        Checks.due("0 forks 3, at the back", p.queue(), "1 2 3");
        p.runOut();
        Checks.due("empty", p.queue(), "");
        Checks.finish();
    }
}
