/** Promise 2: effect. */
public final class EffectTest {
    /** How many of X, Y and Z an EFFECT of each kind has. */
    private static final int[] PARTS = {
        0, 0, 0, 0, 2, 3, 2, 3, 1, 1, 1, 1, 1, 0, 0, 2, 0, 0, 0, 0, 0, 0, 0, 0, 0, 2
    };
    private static final int FIRST_AT_PLACE = 19, LAST_AT_PLACE = 24;

    public static void main(String[] args) {
        Checks.edge(2, "its number, from 0 on", EffectTest::numbersFollow);
        Checks.edge(2, "at most 40: the 40th", EffectTest::theFortieth);
        Checks.edge(2, "FULL if there are 40", EffectTest::full);
        Checks.edge(2, "FULL: nothing changes", EffectTest::fullChangesNothing);
        Checks.edge(2, "REFUSED, named before FULL, if both are so", EffectTest::refusedBeforeFull);
        Checks.edge(2, "kind is not 0..25: too small", () -> wrongKinds(-1, -26, Integer.MIN_VALUE));
        Checks.edge(2, "kind is not 0..25: too large", () -> wrongKinds(26, 27, 100, Integer.MAX_VALUE));
        Checks.edge(2, "kind 0 and kind 25", EffectTest::firstAndLastKind);
        Checks.edge(2, "X is no EFFECT that is there", () -> partIsLookedAt(0));
        Checks.edge(2, "Y is no EFFECT that is there", () -> partIsLookedAt(1));
        Checks.edge(2, "Z is no EFFECT that is there", () -> partIsLookedAt(2));
        Checks.edge(2, "X, Y, Z are earlier ones: the first and the latest", EffectTest::earlierOnes);
        Checks.edge(2, "X, Y, Z are earlier ones: none is itself", EffectTest::notItself);
        Checks.edge(2, "n is not 0..3 for 19 to 24: too small", () -> wrongPlaces(-1, -4, Integer.MIN_VALUE));
        Checks.edge(2, "n is not 0..3 for 19 to 24: too large", () -> wrongPlaces(4, 5, 39, Integer.MAX_VALUE));
        Checks.edge(2, "n is 0..3 for 19 to 24: 0 and 3", EffectTest::rightPlaces);
        Checks.edge(2, "n of the others is any int", EffectTest::numbersOfOthers);
        Checks.edge(2, "what an EFFECT does not have is not looked at", EffectTest::notLookedAt);
        Checks.edge(2, "REFUSED: no number is used up", EffectTest::refusedUsesNoNumber);
        Checks.edge(2, "a, b, c in the order named", EffectTest::orderOfParts);
        Checks.finish();
    }

    private static FiberDesk deskWith(int effects) {
        FiberDesk desk = new FiberDesk();
        for (int e = 0; e < effects; e++) {
            desk.effect(0, 100 + e, 0, 0);
        }
        return desk;
    }

    private static void due(FiberDesk desk, int kind, int[] abc, int want) {
        String call = "effect(" + kind + ", " + abc[0] + ", " + abc[1] + ", " + abc[2] + ")";
        Checks.due(call, desk.effect(kind, abc[0], abc[1], abc[2]), want);
    }

    private static void numbersFollow() {
        FiberDesk desk = new FiberDesk();
        for (int e = 0; e < 40; e++) {
            Checks.due("effect " + e, desk.effect(e % 4, e * 1000, -1, -1), e);
            Checks.due("count(0)", desk.count(0), e + 1);
        }
    }

    private static void theFortieth() {
        FiberDesk desk = deskWith(39);
        Checks.due("the 40th", desk.effect(8, 38, 0, 0), 39);
        Checks.due("start(39, 0)", desk.start(39, 0), true);
        desk.run(20);
        Checks.due("its VALUE", desk.fiber(0, 5), 138);
    }

    private static void full() {
        FiberDesk desk = deskWith(40);
        Checks.due("the 41st", desk.effect(0, 1, 0, 0), FiberDesk.FULL);
        Checks.due("the 41st again", desk.effect(0, 1, 0, 0), FiberDesk.FULL);
        for (int kind = 0; kind <= 25; kind++) {
            due(desk, kind, new int[] {3, 39, 39}, FiberDesk.FULL);
        }
    }

    private static void fullChangesNothing() {
        FiberDesk desk = deskWith(40);
        desk.effect(2, 7, 0, 0);
        Checks.due("count(0)", desk.count(0), 40);
        Checks.due("start(40, 0)", desk.start(40, 0), false);
        for (int e = 0; e < 40; e++) {
            desk.start(e, 0);
            desk.run(2);
            Checks.due("the VALUE of " + e, desk.fiber(0, 5), 100 + e);
        }
    }

    private static void refusedBeforeFull() {
        FiberDesk desk = deskWith(40);
        due(desk, 26, new int[] {0, 0, 0}, FiberDesk.REFUSED);
        due(desk, 8, new int[] {40, 0, 0}, FiberDesk.REFUSED);
        due(desk, 19, new int[] {4, 0, 0}, FiberDesk.REFUSED);
    }

    private static void wrongKinds(int... kinds) {
        FiberDesk desk = deskWith(3);
        for (int kind : kinds) {
            due(desk, kind, new int[] {0, 0, 0}, FiberDesk.REFUSED);
        }
        Checks.due("count(0)", desk.count(0), 3);
    }

    private static void firstAndLastKind() {
        FiberDesk desk = new FiberDesk();
        due(desk, 0, new int[] {9, 0, 0}, 0);
        due(desk, 25, new int[] {0, 0, 0}, 1);
        desk.start(1, 5);
        desk.run(20);
        Checks.due("PICK of GIVE 9", desk.fiber(0, 5), 9);
    }

    private static void partIsLookedAt(int part) {
        for (int kind = 0; kind <= 25; kind++) {
            if (PARTS[kind] <= part) {
                continue;
            }
            FiberDesk desk = deskWith(3);
            for (int wrong : new int[] {-1, 3, 40, Integer.MIN_VALUE, Integer.MAX_VALUE}) {
                int[] abc = {2, 2, 2};
                abc[part] = wrong;
                due(desk, kind, abc, FiberDesk.REFUSED);
            }
            Checks.due("count(0)", desk.count(0), 3);
            due(desk, kind, new int[] {2, 2, 2}, 3);
        }
    }

    private static void earlierOnes() {
        for (int kind = 0; kind <= 25; kind++) {
            FiberDesk desk = deskWith(3);
            due(desk, kind, new int[] {0, 0, 0}, 3);
            due(desk, kind, new int[] {PARTS[kind] > 0 ? 3 : 0, 3, 3}, 4);
        }
    }

    private static void notItself() {
        due(new FiberDesk(), 8, new int[] {0, 0, 0}, FiberDesk.REFUSED);
        due(deskWith(39), 4, new int[] {39, 0, 0}, FiberDesk.REFUSED);
        due(deskWith(39), 4, new int[] {0, 39, 0}, FiberDesk.REFUSED);
        due(deskWith(39), 5, new int[] {0, 0, 39}, FiberDesk.REFUSED);
    }

    private static void wrongPlaces(int... places) {
        for (int kind = FIRST_AT_PLACE; kind <= LAST_AT_PLACE; kind++) {
            FiberDesk desk = deskWith(40 - 1);
            for (int n : places) {
                due(desk, kind, new int[] {n, 0, 0}, FiberDesk.REFUSED);
            }
            Checks.due("count(0)", desk.count(0), 39);
        }
    }

    private static void rightPlaces() {
        for (int kind = FIRST_AT_PLACE; kind <= LAST_AT_PLACE; kind++) {
            FiberDesk desk = new FiberDesk();
            for (int n = 0; n <= 3; n++) {
                due(desk, kind, new int[] {n, -9, 99}, n);
            }
        }
    }

    private static void numbersOfOthers() {
        for (int kind : new int[] {0, 1, 2, 3, 16}) {
            FiberDesk desk = new FiberDesk();
            int number = 0;
            for (int n : new int[] {Integer.MIN_VALUE, -1, 4, 40, Integer.MAX_VALUE}) {
                due(desk, kind, new int[] {n, 0, 0}, number);
                number++;
            }
        }
    }

    private static void notLookedAt() {
        for (int kind = 0; kind <= 25; kind++) {
            FiberDesk desk = deskWith(1);
            boolean hasPlace = kind >= FIRST_AT_PLACE && kind <= LAST_AT_PLACE;
            for (int wrong : new int[] {-1, 40, Integer.MIN_VALUE, Integer.MAX_VALUE}) {
                int a = PARTS[kind] > 0 || hasPlace ? 0 : wrong;
                int b = PARTS[kind] > 1 ? 0 : wrong;
                int c = PARTS[kind] > 2 ? 0 : wrong;
                due(desk, kind, new int[] {a, b, c}, desk.count(0));
            }
        }
    }

    private static void refusedUsesNoNumber() {
        FiberDesk desk = deskWith(2);
        desk.effect(-1, 0, 0, 0);
        desk.effect(4, 0, 2, 0);
        desk.effect(20, 4, 0, 0);
        Checks.due("count(0)", desk.count(0), 2);
        Checks.due("start(2, 0)", desk.start(2, 0), false);
        due(desk, 4, new int[] {0, 1, 0}, 2);
    }

    /** FOLD and PICK whose X, Y and Z all differ. */
    private static void orderOfParts() {
        Program p = new Program();
        int fail = p.fail(1);
        int y = p.input(100);
        int z = p.input(1000);
        Checks.due("FOLD of a CAUSE", p.outcome(p.fold(fail, y, z), 0), "1001");
        Checks.due("FOLD of a VALUE", p.outcome(p.fold(y, z, fail), 0), "1100");
        Checks.due("BRACKET", p.outcome(p.bracket(y, z, fail), 0), "FAIL 1");
        Checks.due("THEN", p.outcome(p.then(fail, z), 0), "FAIL 1");
        Checks.due("ENSURE", p.outcome(p.ensure(y, z), 0), "100");
        Checks.due("PICK of 0", p.outcome(p.pick(y, z), 0), "1000");
        Checks.due("RACE", p.outcome(p.race(y, z), 0), "100");
    }
}
