import java.util.Objects;

/** Does the cases of a test one by one, and ends it with exit code 1 if an answer was not the one due. */
final class Checks {
    private static final int MOST_TOLD = 50;
    private static String current = "";
    private static int cases = 0;
    private static int made = 0;
    private static int wrong = 0;

    private Checks() {
    }

    /** One case: the promise, the words with which the document names the case, and what looks at it. */
    static void edge(int promise, String words, Runnable look) {
        named("promise " + promise + ", " + words, look);
    }

    static void named(String name, Runnable look) {
        current = name + ": ";
        cases++;
        int before = made;
        try {
            look.run();
        } catch (RuntimeException thrown) {
            tell("threw " + thrown);
        }
        if (made == before) {
            tell("looked at no answer");
        }
        current = "";
    }

    static void due(String call, Object got, Object want) {
        made++;
        if (!Objects.equals(got, want)) {
            tell(call + " answered " + got + ", due is " + want);
        }
    }

    private static void tell(String what) {
        wrong++;
        if (wrong <= MOST_TOLD) {
            System.out.println(current + what);
        }
    }

    static void finish() {
        String all = cases == 0 ? made + " answers" : made + " answers in " + cases + " cases";
        System.out.println(wrong == 0 ? all + " are as due" : wrong + " of " + all + " are not as due");
        if (wrong != 0) {
            System.exit(1);
        }
    }
}
