import java.io.IOException;
import java.lang.reflect.InvocationTargetException;
import java.lang.reflect.Method;
import java.lang.reflect.Modifier;
import java.nio.file.Files;
import java.nio.file.Path;
import java.util.Arrays;
import java.util.HashMap;
import java.util.Map;
import java.util.regex.Matcher;
import java.util.regex.Pattern;

/** The examples of README.md answer what it says, and each method stands there; run it in the project's folder. */
public final class ReadmeTest {
    private static final Pattern CALL = Pattern.compile("bench\\.(\\w+)\\((.*)\\); +// (\\w+).*");
    private static final Map<String, Method> METHODS = new HashMap<>();
    private static ArrayBench bench = new ArrayBench();
    private static int examples = 0;
    private static int wrong = 0;

    public static void main(String[] args) throws IOException, IllegalAccessException {
        String readme = Files.readString(Path.of("README.md"));
        for (Method method : ArrayBench.class.getDeclaredMethods()) {
            if (Modifier.isPublic(method.getModifiers())) {
                METHODS.put(method.getName(), method);
                if (!readme.contains("| `" + method.getName() + "(")) {
                    complain("no table has " + method.getName());
                }
            }
        }
        boolean isExample = false;
        for (String line : readme.split("\n")) {
            if (line.startsWith("```")) {
                isExample = line.equals("```java");
            } else if (isExample) {
                follow(line);
            }
        }
        System.out.println(examples + " examples of README.md, " + wrong + " wrong");
        if (wrong != 0 || examples == 0) {
            System.exit(1);
        }
    }

    private static void complain(String what) {
        wrong++;
        System.out.println("README.md: " + what);
    }

    private static void follow(String line) throws IllegalAccessException {
        Matcher parts = CALL.matcher(line);
        if (line.equals("ArrayBench bench = new ArrayBench();")) {
            bench = new ArrayBench();
        } else if (!parts.matches() || !METHODS.containsKey(parts.group(1))) {
            complain("cannot follow " + line);
        } else {
            examples++;
            int got = answer(METHODS.get(parts.group(1)), parts.group(2));
            if (got != number(parts.group(3))) {
                complain(line + " -- it answered " + got);
            }
        }
    }

    private static int answer(Method method, String inside) throws IllegalAccessException {
        Object[] numbers = inside.isEmpty() ? new Object[0]
                : Arrays.stream(inside.split(", ")).map(ReadmeTest::number).toArray();
        try {
            return (int) method.invoke(bench, numbers);
        } catch (InvocationTargetException thrown) {
            complain(method.getName() + " threw " + thrown.getCause());
            return Integer.MIN_VALUE;
        }
    }

    private static int number(String word) {
        return switch (word) {
            case "BAD" -> ArrayBench.BAD;
            case "STATE" -> ArrayBench.STATE;
            case "FULL" -> ArrayBench.FULL;
            case "NONE" -> ArrayBench.NONE;
            default -> word.startsWith("'") ? word.charAt(1) : Integer.parseInt(word);
        };
    }
}
