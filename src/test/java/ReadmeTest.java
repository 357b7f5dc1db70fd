import java.io.IOException;
import java.nio.file.Files;
import java.nio.file.Path;
import java.util.HashMap;
import java.util.List;
import java.util.Map;
import java.util.regex.Matcher;
import java.util.regex.Pattern;

/** Does the calls of README.md's examples, line by line: each answers what its comment begins with. */
public final class ReadmeTest {
    private static final String NEW_DESK = "FiberDesk desk = new FiberDesk();";
    private static final Pattern CALL = Pattern.compile("(?:int (\\w+) = )?desk\\.(\\w+)\\((.*)\\); *// (-?\\w+)(?:: .*)?");
    private static final int EXAMPLES = 2;

    private final Map<String, Integer> names = new HashMap<>();
    private FiberDesk desk = new FiberDesk();
    private int examples = 0;

    public static void main(String[] args) throws IOException {
        List<String> lines = Files.readAllLines(Path.of("README.md"));
        Checks.named("README.md, the examples", () -> new ReadmeTest().play(lines));
        Checks.finish();
    }

    private void play(List<String> lines) {
        boolean inExample = false;
        for (String line : lines) {
            if (line.startsWith("```")) {
                inExample = line.equals("```java");
            } else if (inExample) {
                play(line);
            }
        }
        Checks.due("examples", examples, EXAMPLES);
    }

    private void play(String line) {
        if (line.equals(NEW_DESK)) {
            desk = new FiberDesk();
            names.clear();
            examples++;
            return;
        }
        Matcher call = CALL.matcher(line);
        boolean known = call.matches();
        Checks.due("is a call with its answer: " + line, known, true);
        if (!known) {
            return;
        }
        Object got = answer(call.group(2), numbers(call.group(3)));
        Checks.due(line, got, dueAnswer(call.group(4)));
        if (call.group(1) != null && got instanceof Integer made) {
            names.put(call.group(1), made);
        }
    }

    private int[] numbers(String arguments) {
        String[] words = arguments.split(", ");
        int[] numbers = new int[words.length];
        for (int i = 0; i < words.length; i++) {
            Integer named = names.get(words[i]);
            numbers[i] = named != null ? named : Integer.parseInt(words[i]);
        }
        return numbers;
    }

    private Object answer(String name, int[] of) {
        return switch (name) {
            case "effect" -> desk.effect(of[0], of[1], of[2], of[3]);
            case "start" -> desk.start(of[0], of[1]);
            case "run" -> desk.run(of[0]);
            case "interrupt" -> desk.interrupt(of[0]);
            case "keep" -> desk.keep(of[0], of[1]);
            case "fiber" -> desk.fiber(of[0], of[1]);
            case "cause" -> desk.cause(of[0], of[1], of[2]);
            case "printed" -> desk.printed(of[0]);
            default -> "no call of the examples";
        };
    }

    private static Object dueAnswer(String word) {
        return switch (word) {
            case "true" -> true;
            case "false" -> false;
            case "REFUSED" -> FiberDesk.REFUSED;
            case "RUNNING" -> FiberDesk.RUNNING;
            case "DONE" -> FiberDesk.DONE;
            case "STUCK" -> FiberDesk.STUCK;
            default -> Integer.parseInt(word);
        };
    }
}
