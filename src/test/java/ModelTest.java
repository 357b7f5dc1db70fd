import java.util.Random;

/**
 * Random runs of calls, always the same ones, of which each answer is compared
 * with that of the Model; no object is used for more than 512 calls.
 */
public final class ModelTest {
    private static final int RUNS = 6000, CALLS = 512;
    private static final int[] LEAVES = {0, 0, 1, 2, 3, 13, 14, 16, 16, 17, 18, 19, 20, 21, 22, 23, 23, 24};
    private static final int[] ANY = {4, 4, 4, 4, 5, 6, 6, 7, 7, 8, 9, 10, 10, 11, 12, 12, 12, 15, 15, 25};
    private static final int[] WAITING = {0, 13, 16, 16, 17, 21, 22, 23, 23, 24, 24, 24};
    private static final int[] FORKING = {4, 4, 4, 4, 7, 8, 12, 12, 12, 12, 15};
    private static final int[] FRAMED = {4, 5, 6, 7, 8, 9, 10};
    private static final int[] CLOSING = {4, 4, 4, 4, 10, 11, 11, 11};
    /** For each sort of run: the EFFECTS at its beginning, and those that are made of others. */
    private static final int[][] FIRST = {LEAVES, LEAVES, WAITING, LEAVES, {2, 2, 3, 0}, {18, 1}, LEAVES};
    private static final int[][] MADE = {ANY, ANY, FORKING, CLOSING, {6, 6, 7, 15, 4}, {4, 4, 4, 25}, FRAMED};

    private final Random random;
    private final FiberDesk desk = new FiberDesk();
    private final Model model = new Model();
    private int calls = 0;

    private ModelTest(int seed) {
        random = new Random(seed);
    }

    public static void main(String[] args) {
        for (int seed = 0; seed < RUNS; seed++) {
            int run = seed;
            Checks.named("run " + run, () -> new ModelTest(run).play());
        }
        Checks.finish();
    }

    private void play() {
        buildEffects(random.nextInt(MADE.length));
        for (int early = random.nextInt(3) * 10; early > 0; early--) {
            ask();
            keep();
        }
        start(model.count(0) - 1 - random.nextInt(3), random.nextInt(4));
        while (calls < CALLS) {
            if (random.nextInt(8) == 0) {
                act();
            } else {
                ask();
            }
        }
    }

    /** 20 to 42 EFFECTS, most of them of the latest ones before; those beyond 40 are FULL. */
    private void buildEffects(int sort) {
        int size = 20 + random.nextInt(23);
        for (int i = 0; i < size; i++) {
            boolean deep = MADE[sort] == FRAMED;
            if (i < 6 || !deep && i < size - 4 && random.nextInt(3) == 0) {
                effect(oneOf(FIRST[sort]), number(), wild(), wild());
            } else {
                effect(oneOf(MADE[sort]), deep ? model.count(0) - 1 : latest(), latest(), latest());
            }
        }
    }

    /** Most often that of a place, so that fibers meet there; else one around the longest SLEEP. */
    private int number() {
        return random.nextInt(9) == 0 ? 998 + random.nextInt(5) : random.nextInt(1 + random.nextInt(4));
    }

    private int oneOf(int[] choices) {
        return choices[random.nextInt(choices.length)];
    }

    private int latest() {
        return Math.max(0, model.count(0) - 1 - random.nextInt(random.nextBoolean() ? 4 : 12));
    }

    private int wild() {
        return random.nextInt(3) == 0 ? random.nextInt() : random.nextInt(45) - 3;
    }

    /** A call that changes something, with fair arguments for the most part. */
    private void act() {
        int choice = random.nextInt(40);
        if (choice == 0) {
            effect(wild(), wild(), wild(), wild());
        } else if (choice == 1) {
            start(random.nextBoolean() ? wild() : random.nextInt(40), random.nextInt(4));
        } else if (choice <= 5) {
            int f = random.nextInt(7) - 1;
            calls++;
            Checks.due("interrupt(" + f + ")", desk.interrupt(f), model.interrupt(f));
        } else if (choice <= 9) {
            keep();
        } else {
            int n = random.nextInt(3) == 0 ? 20 : random.nextInt(22);
            calls++;
            Checks.due("run(" + n + ")", desk.run(n), model.run(n));
        }
    }

    private void effect(int kind, int a, int b, int c) {
        calls++;
        String call = "effect(" + kind + ", " + a + ", " + b + ", " + c + ")";
        Checks.due(call, desk.effect(kind, a, b, c), model.effect(kind, a, b, c));
    }

    private void start(int e, int v) {
        calls++;
        Checks.due("start(" + e + ", " + v + ")", desk.start(e, v), model.start(e, v));
    }

    private void keep() {
        int n = random.nextInt(6) - 1;
        int v = random.nextInt(9) - 2;
        calls++;
        Checks.due("keep(" + n + ", " + v + ")", desk.keep(n, v), model.keep(n, v));
    }

    private void ask() {
        calls++;
        int a = random.nextInt(12) - 1;
        int b = random.nextInt(10) - 1;
        int c = random.nextInt(4) - 1;
        int k = random.nextInt(30) - 2;
        switch (random.nextInt(9)) {
            case 0, 1, 2 -> Checks.due("fiber(" + a + ", " + b + ")", desk.fiber(a, b), model.fiber(a, b));
            case 3, 4 -> Checks.due("cause(" + a + ", " + b + ", " + c + ")", desk.cause(a, b, c), model.cause(a, b, c));
            case 5 -> Checks.due("queued(" + c + ")", desk.queued(c), model.queued(c));
            case 6 -> Checks.due("printed(" + k + ")", desk.printed(k), model.printed(k));
            case 7 -> Checks.due("cell(" + c + ", " + b + ")", desk.cell(c, b), model.cell(c, b));
            default -> Checks.due("count(" + b + ")", desk.count(b), model.count(b));
        }
    }
}
