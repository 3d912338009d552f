import java.io.IOException;
import java.lang.reflect.InvocationTargetException;
import java.lang.reflect.Method;
import java.nio.file.Files;
import java.nio.file.Path;
import java.util.ArrayList;
import java.util.Arrays;
import java.util.List;
import java.util.regex.Matcher;
import java.util.regex.Pattern;

/** Plays the lines of README.md's Java examples, all on one object, and compares with what stands behind them. */
public final class ReadmeTest {
    private static final String MAKES = "RaftRegistry r = new RaftRegistry();";
    private static final Pattern CALL = Pattern.compile("r\\.(\\w+)\\(([-0-9, ]*)\\);\\s*(?://\\s*(.*))?");
    private static final Pattern NUMBER = Pattern.compile("(-?\\d+)(?::.*)?");
    private static final Pattern THROWS = Pattern.compile("throws (\\w+)(?::.*)?");
    private static final String NO_ANSWER = "";
    private static final int FEWEST_LINES = 30;

    public static void main(String[] args) throws IOException {
        List<String> lines = exampleLines();
        if (lines.size() < FEWEST_LINES || !lines.get(0).equals(MAKES)) {
            Due.wrong("README.md has no examples that begin with " + MAKES);
        }
        RaftRegistry r = new RaftRegistry();
        for (String line : lines.subList(Math.min(1, lines.size()), lines.size())) {
            play(r, line);
        }
        Due.end();
    }

    private static List<String> exampleLines() throws IOException {
        List<String> lines = new ArrayList<>();
        boolean inside = false;
        for (String line : Files.readAllLines(Path.of("README.md"))) {
            if (line.startsWith("```")) {
                inside = line.equals("```java");
            } else if (inside && !line.isBlank()) {
                lines.add(line.strip());
            }
        }
        return lines;
    }

    private static void play(RaftRegistry r, String line) {
        Matcher call = CALL.matcher(line);
        Method method = call.matches() ? methodNamed(call.group(1)) : null;
        if (method == null) {
            Due.wrong("not one call of the class: " + line);
            return;
        }
        String due = due(method, call.group(3) == null ? "" : call.group(3));
        String got = answer(r, method, numbers(call.group(2)));
        Due.same(line + " .. answered " + got, due, got);
    }

    private static String due(Method method, String told) {
        Matcher thrown = THROWS.matcher(told);
        if (thrown.matches()) {
            return thrown.group(1);
        }
        if (method.getReturnType() == void.class) {
            return NO_ANSWER;
        }
        Matcher number = NUMBER.matcher(told);
        return number.matches() ? number.group(1) : "an answer that README.md does not tell";
    }

    private static Method methodNamed(String name) {
        for (Method m : RaftRegistry.class.getMethods()) {
            if (m.getName().equals(name)) {
                return m;
            }
        }
        return null;
    }

    private static Object[] numbers(String list) {
        if (list.isBlank()) {
            return new Object[0];
        }
        return Arrays.stream(list.split(",")).map(x -> (Object) Integer.valueOf(x.strip())).toArray();
    }

    /** What the call answers, or the name of what it throws. */
    private static String answer(RaftRegistry r, Method method, Object[] numbers) {
        try {
            Object got = method.invoke(r, numbers);
            return got == null ? NO_ANSWER : got.toString();
        } catch (InvocationTargetException e) {
            return e.getCause().getClass().getSimpleName();
        } catch (IllegalAccessException | IllegalArgumentException e) {
            return "no call: " + e;
        }
    }
}
