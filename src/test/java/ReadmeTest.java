import java.io.IOException;
import java.nio.file.Files;
import java.nio.file.Path;
import java.util.regex.Matcher;
import java.util.regex.Pattern;

/** README.md says how to use the class: each call of its examples answers what stands behind it there. */
public final class ReadmeTest {
    private static final Checks CHECKS = new Checks();
    private static final Path README = Path.of("README.md");
    private static final String NEW_OBJECT = "LeavingMachine machine = new LeavingMachine();";
    // A call, and behind it what it answers or throws, perhaps with a colon and words.
    private static final Pattern CALL =
        Pattern.compile("machine\\.(\\w+)\\(([^)]*)\\);(?: +// ([-\\w]+)(?:: (.*))?)?");

    private LeavingMachine machine;
    private int calls;

    public static void main(String[] args) throws IOException {
        new ReadmeTest().checkAll();
        CHECKS.end();
    }

    private void checkAll() throws IOException {
        boolean inExample = false;
        for (String line : Files.readAllLines(README)) {
            CHECKS.sentence("README.md: " + line);
            if (line.startsWith("```")) {
                inExample = line.equals("```java");
            } else if (inExample) {
                check(line.strip());
            }
        }
        CHECKS.sentence("README.md");
        CHECKS.due("it has examples", calls >= 10, true);
        CHECKS.due("it says how to run the tests", Files.readString(README).contains("\n    .ci/run\n"), true);
    }

    private void check(String line) {
        if (line.isEmpty()) {
            return;
        }
        if (line.equals(NEW_OBJECT)) {
            machine = new LeavingMachine();
            return;
        }
        Matcher call = CALL.matcher(line);
        CHECKS.due("it is a call", call.matches(), true);
        if (call.matches()) {
            calls++;
            check(call.group(1), call.group(2), call.group(3), call.group(4));
        }
    }

    private void check(String name, String argument, String answer, String words) {
        switch (name) {
            case "wipe" -> machine.wipe();
            case "type" -> {
                long part = Long.decode(argument.replace("L", ""));
                CHECKS.due("type", String.valueOf(machine.type(part)), answer);
                CHECKS.due("what is typed", part, Checks.part(words));
            }
            default -> CHECKS.due(name, Checks.answer(() -> ask(name, argument)), answer);
        }
    }

    private long ask(String name, String argument) {
        return switch (name) {
            case "compile" -> machine.compile();
            case "run" -> machine.run(Integer.parseInt(argument));
            case "out" -> machine.out(Integer.parseInt(argument));
            case "variable" -> machine.variable(Integer.parseInt(argument));
            case "raised" -> machine.raised(Boolean.parseBoolean(argument));
            case "raises" -> machine.raises(Integer.parseInt(argument));
            case "look" -> machine.look(Integer.parseInt(argument));
            default -> throw new UnsupportedOperationException(name);
        };
    }
}
