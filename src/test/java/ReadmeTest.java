import java.lang.reflect.Method;
import java.nio.file.Files;
import java.nio.file.Path;
import java.util.Map;
import java.util.regex.Matcher;
import java.util.regex.Pattern;

/** The calls that README.md shows, as they are written there, each with the answer behind it. */
public final class ReadmeTest {
    private static final Pattern BLOCK = Pattern.compile("```java\n(.*?)```", Pattern.DOTALL);
    private static final Pattern CALL = Pattern.compile("x\\.(\\w+)\\(([-\\d, ]*)\\); +// (-?\\d+|[A-Z]+)\\b.*");
    private static final Map<String, Integer> NAMES = Map.of("NONE", StepMarks.NONE, "BAD", StepMarks.BAD,
        "FULL", StepMarks.FULL, "LARGE", StepMarks.LARGE);
    private static final int LEAST_CALLS = 20;

    private static StepMarks x = null;
    private static int calls = 0;
    private static int wrong = 0;

    public static void main(String[] args) throws Exception {
        Matcher block = BLOCK.matcher(Files.readString(Path.of("README.md")));
        while (block.find()) {
            for (String line : block.group(1).split("\n")) {
                follow(line.trim());
            }
        }
        System.out.println(calls + " calls of README.md, " + wrong + " not as it says");
        // a README without its example would else pass
        if (wrong != 0 || calls < LEAST_CALLS) {
            System.exit(1);
        }
    }

    private static void follow(String line) throws Exception {
        Matcher call = CALL.matcher(line);
        if (line.equals("StepMarks x = new StepMarks();")) {
            x = new StepMarks();
        } else if (call.matches()) {
            calls++;
            long got = answer(call.group(1), call.group(2));
            long told = NAMES.containsKey(call.group(3)) ? NAMES.get(call.group(3)) : Long.parseLong(call.group(3));
            if (got != told) {
                wrong++;
                System.out.println(line + " answered " + got);
            }
        } else if (!line.isEmpty()) {
            wrong++;
            System.out.println(line + " is no call with its answer");
        }
    }

    private static long answer(String name, String written) throws Exception {
        String[] parts = written.isEmpty() ? new String[0] : written.split(", ");
        for (Method m : StepMarks.class.getMethods()) {
            if (m.getName().equals(name)) {
                return ((Number) m.invoke(x, arguments(m, parts))).longValue();
            }
        }
        throw new IllegalStateException("no method " + name);
    }

    private static Object[] arguments(Method m, String[] parts) {
        Object[] all = new Object[parts.length];
        for (int i = 0; i < parts.length; i++) {
            boolean isLong = i < m.getParameterCount() && m.getParameterTypes()[i] == long.class;
            all[i] = isLong ? (Object) Long.valueOf(parts[i]) : (Object) Integer.valueOf(parts[i]);
        }
        return all;
    }
}
