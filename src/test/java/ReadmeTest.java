import java.io.IOException;
import java.lang.reflect.InvocationTargetException;
import java.lang.reflect.Method;
import java.lang.reflect.Modifier;
import java.nio.file.Files;
import java.nio.file.Path;
import java.util.ArrayList;
import java.util.List;
import java.util.regex.Matcher;
import java.util.regex.Pattern;

/** README.md tells the truth: its example's answers are right, and it says how each method is called. */
public final class ReadmeTest {
    private static final Checks CHECKS = new Checks();
    private static final String NEW_OBJECT = "MarkedPages x = new MarkedPages();";
    /** A call, then its answer, then what there is to say of it. */
    private static final Pattern CALL = Pattern.compile("x\\.(\\w+)\\((.*)\\); +// ([^:]+)(: .*)?");

    public static void main(String[] args) throws IOException {
        CHECKS.about("README.md");
        String readme = Files.readString(Path.of("README.md"));
        List<String> example = example(readme);
        answersAreRight(example);
        for (Method method : MarkedPages.class.getDeclaredMethods()) {
            if (Modifier.isPublic(method.getModifiers())) {
                methodIsTold(method, readme, example);
            }
        }
        CHECKS.due("names the command that runs the tests", true, readme.contains("\n    .ci/run\n"));
        CHECKS.end();
    }

    private static List<String> example(String readme) {
        int start = readme.indexOf("```java\n");
        int end = readme.indexOf("\n```\n", start);
        CHECKS.due("has an example", true, start >= 0 && end >= 0);
        List<String> lines = new ArrayList<>();
        if (start >= 0 && end >= 0) {
            lines.addAll(readme.substring(start, end).lines().skip(1).toList());
        }
        return lines;
    }

    private static void answersAreRight(List<String> example) {
        MarkedPages x = new MarkedPages();
        for (int i = 0; i < example.size(); i++) {
            Matcher call = CALL.matcher(example.get(i));
            if (i == 0) {
                CHECKS.due("the example's first line", NEW_OBJECT, example.get(i));
            } else if (call.matches()) {
                CHECKS.due(example.get(i), call.group(3), answer(x, call.group(1), call.group(2).split(", ")));
            } else {
                CHECKS.due(example.get(i), "a call with its answer", "something else");
            }
        }
    }

    private static String answer(MarkedPages x, String name, String[] arguments) {
        for (Method method : MarkedPages.class.getDeclaredMethods()) {
            if (Modifier.isPublic(method.getModifiers()) && method.getName().equals(name)
                    && method.getParameterCount() == arguments.length) {
                return answer(x, method, values(arguments));
            }
        }
        return "there is no such method";
    }

    private static String answer(MarkedPages x, Method method, Object[] values) {
        try {
            Object answer = method.invoke(x, values);
            return answer instanceof Character ? "'" + answer + "'" : answer.toString();
        } catch (InvocationTargetException e) {
            return "throws " + e.getCause().getClass().getSimpleName();
        } catch (IllegalAccessException | IllegalArgumentException e) {
            return "the call does not fit the method";
        }
    }

    private static Object[] values(String[] arguments) {
        Object[] values = new Object[arguments.length];
        for (int i = 0; i < arguments.length; i++) {
            boolean isChar = arguments[i].matches("'.'");
            values[i] = isChar ? (Object) arguments[i].charAt(1) : (Object) Integer.valueOf(arguments[i]);
        }
        return values;
    }

    private static void methodIsTold(Method method, String readme, List<String> example) {
        StringBuilder parameters = new StringBuilder();
        for (Class<?> type : method.getParameterTypes()) {
            parameters.append(parameters.length() == 0 ? "" : ", ").append(type.getName()).append(" \\w+");
        }
        Pattern told = Pattern.compile(
                "- `" + method.getReturnType().getName() + " " + method.getName() + "\\(" + parameters + "\\)`: ");
        CHECKS.due("says how " + method.getName() + " is called", true, told.matcher(readme).find());
        CHECKS.due("has " + method.getName() + " in its example", true,
                example.stream().anyMatch(line -> line.startsWith("x." + method.getName() + "(")));
    }
}
