import java.nio.file.Files;
import java.nio.file.Path;
import java.util.regex.Matcher;
import java.util.regex.Pattern;

/** The example in README.md: each call answers what is told behind it. */
public final class ReadmeTest {
    private static final Pattern CALL = Pattern.compile("bay\\.(\\w+)\\((.*)\\); +// (-?\\d+).*");
    // What is no int is the last argument of these three.
    private static final String NOT_OF_INTS = "stamp loop tag";

    public static void main(String[] args) throws Exception {
        Bay bay = new ClassBay();
        for (String line : Files.readAllLines(Path.of("README.md"))) {
            if (!line.startsWith("bay.")) continue;
            Matcher call = CALL.matcher(line);
            Due.is("a call and its answer: " + line, call.matches() ? 1 : 0, 1);
            if (call.matches()) {
                Due.is(line, answer(bay, call.group(1), call.group(2)), Long.parseLong(call.group(3)));
            }
        }
        Due.close();
    }

    private static long answer(Bay bay, String name, String arguments) {
        String[] parts = arguments.isEmpty() ? new String[0] : arguments.split(", ");
        boolean ofInts = !NOT_OF_INTS.contains(name);
        int[] ints = new int[ofInts ? parts.length : parts.length - 1];
        for (int i = 0; i < ints.length; i++) {
            ints[i] = Integer.parseInt(parts[i]);
        }
        return bay.named(name, ofInts ? 0 : last(parts[ints.length]), ints);
    }

    private static long last(String part) {
        return part.equals("true") ? 1 : part.equals("false") ? 0 : Long.parseLong(part);
    }
}
