/** Promise 2: effect. */
public final class EffectTest {
    private static final int[] PARTS = {
        0, 0, 0, 0, 2, 3, 2, 3, 1, 1, 1, 1, 1, 0, 0, 2, 0, 0, 0, 0, 0, 0, 0, 0, 0, 2
    };

    public static void main(String[] args) {
        numbersFollow();
        for (int kind = 0; kind <= 25; kind++) {
            partsAreLookedAt(kind);
        }
        placesAreLookedAt();
        wrongKinds();
        fullAtForty();
        Checks.finish();
    }

    private static void numbersFollow() {
        FiberDesk desk = new FiberDesk();
        for (int i = 0; i < 40; i++) {
            Checks.due("effect " + i, desk.effect(i % 4, i * 1000, -1, -1), i);
            Checks.due("count(0)", desk.count(0), i + 1);
        }
    }

    private static void partsAreLookedAt(int kind) {
        int[] wrongs = {-1, 3, 40, Integer.MIN_VALUE, Integer.MAX_VALUE};
        for (int place = 0; place < 3; place++) {
            for (int bad : wrongs) {
                FiberDesk desk = threeEffects();
                int a = place == 0 ? bad : 2;
                int b = place == 1 ? bad : 2;
                int c = place == 2 ? bad : 2;
                boolean looked = place < PARTS[kind] || place == 0 && kind >= 19 && kind <= 24 && (bad < 0 || bad > 3);
                String call = "effect(" + kind + ", " + a + ", " + b + ", " + c + ")";
                Checks.due(call, desk.effect(kind, a, b, c), looked ? FiberDesk.REFUSED : 3);
                Checks.due("count(0) behind " + call, desk.count(0), looked ? 3 : 4);
            }
        }
        Checks.due("effect(" + kind + ", 0, 1, 2)", threeEffects().effect(kind, 0, 1, 2), 3);
    }

    private static FiberDesk threeEffects() {
        FiberDesk desk = new FiberDesk();
        desk.effect(0, 1, 0, 0);
        desk.effect(1, 1, 0, 0);
        desk.effect(2, 1, 0, 0);
        return desk;
    }

    private static void placesAreLookedAt() {
        for (int kind = 19; kind <= 24; kind++) {
            FiberDesk desk = new FiberDesk();
            Checks.due("effect(" + kind + ", -1)", desk.effect(kind, -1, 0, 0), -1);
            Checks.due("effect(" + kind + ", 4)", desk.effect(kind, 4, 0, 0), -1);
            Checks.due("effect(" + kind + ", 0)", desk.effect(kind, 0, 9, 9), 0);
            Checks.due("effect(" + kind + ", 3)", desk.effect(kind, 3, 9, 9), 1);
        }
    }

    private static void wrongKinds() {
        FiberDesk desk = threeEffects();
        int[] wrongs = {-1, 26, 100, Integer.MIN_VALUE, Integer.MAX_VALUE};
        for (int kind : wrongs) {
            Checks.due("effect(" + kind + ")", desk.effect(kind, 0, 0, 0), FiberDesk.REFUSED);
        }
        Checks.due("count(0)", desk.count(0), 3);
    }

    private static void fullAtForty() {
        FiberDesk desk = new FiberDesk();
        for (int i = 0; i < 40; i++) {
            desk.effect(0, i, 0, 0);
        }
        Checks.due("the 41st", desk.effect(0, 1, 0, 0), FiberDesk.FULL);
        Checks.due("the 41st, of the latest", desk.effect(4, 39, 39, 0), FiberDesk.FULL);
        Checks.due("a wrong 41st", desk.effect(4, 40, 0, 0), FiberDesk.REFUSED);
        Checks.due("a wrong kind as 41st", desk.effect(26, 0, 0, 0), FiberDesk.REFUSED);
        Checks.due("count(0)", desk.count(0), 40);
        Checks.due("start(39)", desk.start(39, 0), true);
        Checks.due("run", desk.run(20), FiberDesk.DONE);
        Checks.due("fiber(0, 5)", desk.fiber(0, 5), 39);
    }
}
