/** Promise 4: run, its turns and how all stands. */
public final class RunTest {
    public static void main(String[] args) {
        wrongNumbers();
        countsSteps();
        turnsHaveFiveSteps();
        turnsGoOnWithTheNextCall();
        howAllStands();
        Checks.finish();
    }

    private static void wrongNumbers() {
        Program p = new Program();
        Checks.due("run before start", p.desk.run(1), FiberDesk.REFUSED);
        p.start(p.give(1), 0);
        int[] wrongs = {0, -1, 21, Integer.MIN_VALUE, Integer.MAX_VALUE};
        for (int n : wrongs) {
            Checks.due("run(" + n + ")", p.desk.run(n), FiberDesk.REFUSED);
        }
        Checks.due("no step was done", p.desk.count(3), 0);
        Checks.due("run(20)", p.desk.run(20), FiberDesk.DONE);
    }

    private static void countsSteps() {
        Program p = new Program();
        int e = p.give(1);
        for (int i = 0; i < 15; i++) {
            e = p.mask(e);
        }
        p.start(e, 0);
        Checks.due("run(1)", p.desk.run(1), FiberDesk.RUNNING);
        Checks.due("steps", p.desk.count(3), 1);
        Checks.due("run(20)", p.desk.run(20), FiberDesk.RUNNING);
        Checks.due("steps", p.desk.count(3), 21);
        Checks.due("run(10)", p.desk.run(10), FiberDesk.RUNNING);
        Checks.due("run(20)", p.desk.run(20), FiberDesk.DONE);
        Checks.due("no more than there are", p.desk.count(3), 32);
        Checks.due("run(20) when done", p.desk.run(20), FiberDesk.DONE);
        Checks.due("steps", p.desk.count(3), 32);
        Checks.due("turns", p.desk.count(5), 7);
    }

    private static void turnsHaveFiveSteps() {
        Program p = new Program();
        int work = p.then(p.input(0), p.input(0), p.input(0), p.input(0));
        p.start(p.race(work, work), 0);
        p.desk.run(1);
        StringBuilder turns = new StringBuilder();
        for (int i = 0; i < 22; i++) {
            p.desk.run(1);
            turns.append(p.desk.count(6) < 0 ? "." : String.valueOf(p.desk.count(6)));
        }
        Checks.due("at work behind each step", turns.toString(), "1111.2222.1111.2222..2");
        Checks.due("turns", p.desk.count(5), 7);
        Checks.due("5 steps and 5 and 1", p.desk.fiber(1, 6), 11);
        forkAtTheFifthStep();
    }

    private static void forkAtTheFifthStep() {
        Program p = new Program();
        p.start(p.mask(p.mask(p.mask(p.mask(p.fork(p.give(0)))))), 0);
        p.desk.run(4);
        Checks.due("at work", p.desk.count(6), 0);
        p.desk.run(1);
        Checks.due("the new one stands before its parent", p.queue(), "1 0");
    }

    private static void turnsGoOnWithTheNextCall() {
        Program p = new Program();
        int g = p.input(1);
        int e = p.then(g, g, g, g, g);
        p.start(e, 0);
        for (int i = 0; i < 4; i++) {
            p.desk.run(1);
            Checks.due("one turn", p.desk.count(5), 1);
            Checks.due("at work", p.desk.count(6), 0);
            Checks.due("not in the queue", p.desk.queued(0), FiberDesk.REFUSED);
        }
        p.desk.run(1);
        Checks.due("the turn is over", p.desk.count(6), -1);
        Checks.due("at once at the back", p.queue(), "0");
        Checks.due("no new turn yet", p.desk.count(5), 1);
        p.desk.run(1);
        Checks.due("a new turn", p.desk.count(5), 2);
        p.runOut();
        Checks.due("its end", p.exit(0), "5");
        Checks.due("none at work", p.desk.count(6), -1);
    }

    private static void howAllStands() {
        Program p = new Program();
        p.start(p.await(0), 0);
        Checks.due("stuck", p.desk.run(20), FiberDesk.STUCK);
        Checks.due("steps", p.desk.count(3), 1);
        Checks.due("stuck again", p.desk.run(20), FiberDesk.STUCK);
        Checks.due("no turn was begun", p.desk.count(5), 1);
        p.desk.keep(0, 1);
        Checks.due("ready again", p.desk.count(7), FiberDesk.RUNNING);
        Checks.due("done", p.desk.run(20), FiberDesk.DONE);
        p.start(p.then(p.fork(p.sleep(4)), p.await(1)), 0);
        Checks.due("one sleeps", p.desk.run(5), FiberDesk.RUNNING);
        Checks.due("one waits, one has ended", p.desk.run(20), FiberDesk.STUCK);
        p.desk.interrupt(0);
        Checks.due("interrupted", p.desk.count(7), FiberDesk.RUNNING);
        Checks.due("all have ended", p.desk.run(20), FiberDesk.DONE);
    }
}
