/** Promises 4 and 7: FRAMES, of which a fiber has at most 16. */
public final class FrameTest {
    private static final String[] NAMES = {"THEN", "FOLD", "ENSURE", "BRACKET", "MASK", "RESTORE", "SCOPE"};
    private static final int FIRST_KIND = 4;

    public static void main(String[] args) {
        Checks.edge(7, "no other EFFECT puts a FRAME", FrameTest::othersPutNone);
        for (int i = 0; i < NAMES.length; i++) {
            int kind = FIRST_KIND + i;
            Checks.edge(7, NAMES[i] + " puts a FRAME when it is begun", () -> putsOne(kind));
            Checks.edge(4, NAMES[i] + " as the 16th FRAME", () -> asTheSixteenth(kind));
            Checks.edge(4, NAMES[i] + " with 16 FRAMES is DIE -4", () -> withSixteen(kind));
            Checks.edge(4, NAMES[i] + " with 16 FRAMES: nothing of it is done", () -> nothingIsDone(kind));
        }
        Checks.edge(4, "with 16 FRAMES the others are done", FrameTest::othersWithSixteen);
        Checks.edge(4, "with 16 FRAMES: DIE -4 comes to those", FrameTest::dieComesToThem);
        Checks.edge(4, "with 16 FRAMES: MASKED or not stays", FrameTest::maskStays);
        Checks.edge(4, "FRAMES of a closing EFFECT stay: a CLOSER with 16", FrameTest::closerWithSixteen);
        Checks.edge(4, "FRAMES that went leave room", FrameTest::roomAgain);
        Checks.edge(4, "Y of THEN is done without its FRAME: 30 of them", FrameTest::longChain);
        Checks.edge(4, "each fiber has its own 16", FrameTest::ownSixteen);
        Checks.finish();
    }

    private static int wrapped(Program p, int e, int frames) {
        int all = e;
        for (int i = 0; i < frames; i++) {
            all = p.scope(all);
        }
        return all;
    }

    private static void othersPutNone() {
        for (int kind = 0; kind <= 25; kind++) {
            if (kind >= FIRST_KIND && kind < FIRST_KIND + NAMES.length) {
                continue;
            }
            Program p = new Program();
            p.give(1);
            p.give(2);
            p.start(p.desk.effect(kind, 0, 1, 0), 0);
            p.desk.run(1);
            Checks.due("FRAMES of kind " + kind, p.desk.fiber(0, 2), 0);
        }
    }

    private static void putsOne(int kind) {
        Program p = new Program();
        int e = p.desk.effect(kind, p.give(1), p.give(2), p.give(3));
        p.start(e, 0);
        Checks.due("FRAMES before", p.desk.fiber(0, 2), 0);
        p.desk.run(1);
        Checks.due("FRAMES behind its beginning", p.desk.fiber(0, 2), 1);
        p.desk.run(1);
        Checks.due("FRAMES behind X", p.desk.fiber(0, 2), 1);
    }

    private static void asTheSixteenth(int kind) {
        Program p = new Program();
        int give = p.give(5);
        p.start(wrapped(p, p.desk.effect(kind, give, give, give), 15), 0);
        p.desk.run(16);
        Checks.due("FRAMES", p.desk.fiber(0, 2), 16);
        p.runOut();
        Checks.due("its end", p.exit(0), "5");
    }

    private static void withSixteen(int kind) {
        Program p = new Program();
        int give = p.give(5);
        p.start(wrapped(p, p.desk.effect(kind, give, give, give), 16), 0);
        p.desk.run(17);
        Checks.due("FRAMES", p.desk.fiber(0, 2), 16);
        p.desk.run(1);
        Checks.due("it RETURNs: FRAMES", p.desk.fiber(0, 2), 15);
        p.runOut();
        Checks.due("its end", p.exit(0), "DIE -4");
        Checks.due("STEPS", p.desk.count(3), 34);
    }

    private static void nothingIsDone(int kind) {
        Program p = new Program();
        int print = p.print();
        p.start(wrapped(p, p.desk.effect(kind, print, print, print), 16), 0);
        p.runOut();
        Checks.due("put out", p.output(), "");
    }

    private static void othersWithSixteen() {
        Program p = new Program();
        Checks.due("PICK", p.outcome(wrapped(p, p.pick(p.print(), p.print()), 16), 6), "6");
        Program q = new Program();
        Checks.due("FORK", q.outcome(wrapped(q, q.fork(q.print()), 16), 6), "1");
        Program r = new Program();
        Checks.due("RACE", r.outcome(wrapped(r, r.race(r.fail(1), r.print()), 16), 6), "6");
        Program s = new Program();
        Checks.due("CLOSE", s.outcome(wrapped(s, s.close(s.print()), 16), 6), "6");
        Checks.due("its CLOSER", s.output(), "6");
    }

    private static void dieComesToThem() {
        Program p = new Program();
        int deep = wrapped(p, p.give(1), 15);
        Checks.due("FOLD", p.outcome(p.fold(p.mask(deep), p.give(1), p.give(2)), 0), "DIE -4");
        Checks.due("ENSURE", p.outcome(p.ensure(p.mask(deep), p.print()), 3), "DIE -4");
        Checks.due("its CLOSER", p.output(), "3");
    }

    private static void maskStays() {
        for (int kind : new int[] {7, 8}) {
            Program p = new Program();
            int give = p.give(5);
            p.start(wrapped(p, p.desk.effect(kind, give, give, give), 16), 0);
            p.desk.run(17);
            Checks.due("MASKED", p.desk.fiber(0, 1), 0);
        }
        Program q = new Program();
        q.start(wrapped(q, q.mask(q.restore(q.give(5))), 15), 0);
        q.desk.run(17);
        Checks.due("MASKED behind RESTORE", q.desk.fiber(0, 1), 1);
    }

    private static void closerWithSixteen() {
        Program p = new Program();
        int give = p.give(5);
        int framed = p.mask(give);
        Checks.due("ENSURE, the 16th", p.outcome(wrapped(p, p.ensure(give, framed), 15), 0), "DIE -4");
        Program q = new Program();
        int value = q.give(5);
        int mask = q.mask(value);
        Checks.due("ENSURE, the 15th", q.outcome(wrapped(q, q.ensure(value, mask), 14), 0), "5");
        Program r = new Program();
        int scope = r.scope(r.close(r.mask(r.give(5))));
        Checks.due("SCOPE, the 16th", r.outcome(wrapped(r, scope, 15), 3), "DIE -4");
        Program s = new Program();
        int bracket = s.bracket(s.give(5), s.give(6), s.mask(s.give(7)));
        Checks.due("BRACKET, the 16th", s.outcome(wrapped(s, bracket, 15), 3), "DIE -4");
    }

    private static void roomAgain() {
        Program p = new Program();
        int deep = wrapped(p, p.input(1), 15);
        Checks.due("16, then 15", p.outcome(p.then(deep, deep), 0), "2");
        int folded = p.fold(p.fail(3), p.give(1), p.scope(deep));
        Checks.due("16 as Z", p.outcome(folded, 0), "4");
        Checks.due("17 as Z", p.outcome(p.fold(p.fail(3), p.give(1), p.mask(p.scope(deep))), 0), "DIE -4");
    }

    private static void longChain() {
        Program p = new Program();
        int next = p.input(1);
        int all = next;
        for (int i = 1; i < 30; i++) {
            all = p.then(next, all);
        }
        p.start(all, 0);
        int most = 0;
        for (int i = 0; i < 100 && p.desk.run(1) == FiberDesk.RUNNING; i++) {
            most = Math.max(most, p.desk.fiber(0, 2));
        }
        Checks.due("its end", p.exit(0), "30");
        Checks.due("FRAMES at the most", most, 1);
    }

    private static void ownSixteen() {
        Program p = new Program();
        int deep = wrapped(p, p.give(4), 16);
        Checks.due("16 in a FORK", p.outcome(p.then(p.fork(deep), p.join()), 0), "4");
        Program q = new Program();
        q.start(wrapped(q, q.fork(q.mask(q.await(0))), 16), 0);
        q.desk.run(17);
        Checks.due("FRAMES of fiber 0", q.desk.fiber(0, 2), 16);
        Checks.due("FRAMES of fiber 1", q.desk.fiber(1, 2), 0);
        for (int i = 0; i < 20 && q.desk.fiber(1, 0) != 1; i++) {
            q.desk.run(1);
        }
        Checks.due("FRAMES of fiber 1, which WAITS", q.desk.fiber(1, 2), 1);
    }
}
