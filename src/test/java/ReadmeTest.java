import java.io.IOException;
import java.lang.reflect.InvocationTargetException;
import java.lang.reflect.Method;
import java.nio.file.Files;
import java.nio.file.Path;
import java.util.ArrayList;
import java.util.List;
import java.util.Map;
import java.util.Set;
import java.util.TreeMap;
import java.util.TreeSet;
import java.util.regex.Matcher;
import java.util.regex.Pattern;

/** The run of calls that README.md tells is made, so that no answer there can grow untrue. */
public final class ReadmeTest {
    private static final Pattern CALL = Pattern.compile("books\\.(\\w+)\\((.*)\\);\\s*// (.*)");
    private static final Pattern ANSWER = Pattern.compile("-> (throws )?(\\w+).*");

    private ReadmeTest() {
    }

    public static void main(String[] args) throws IOException, IllegalAccessException {
        String readme = Files.readString(Path.of("README.md"));
        Check.sentence("README.md: a short run of calls with the answers that they give");
        theRunGivesItsAnswers(readme);
        Check.sentence("README.md: with which command the tests are run");
        Check.holds("the command is told", readme.contains("\n    .ci/run\n"));
        Check.holds("the command can be run", Files.isExecutable(Path.of(".ci/run")));
        Check.finish();
    }

    private static void theRunGivesItsAnswers(String readme) throws IllegalAccessException {
        NetPoints books = new NetPoints();
        Set<String> called = new TreeSet<>();
        List<String> lines = runOf(readme);
        Check.holds("it begins by making an object", !lines.isEmpty()
            && lines.get(0).equals("NetPoints books = new NetPoints();"));
        for (String line : lines.subList(Math.min(1, lines.size()), lines.size())) {
            Matcher call = CALL.matcher(line);
            boolean isCall = call.matches();
            Check.holds("a call with its answer: " + line, isCall);
            if (isCall) {
                called.add(call.group(1));
                String got = answer(books, call.group(1), call.group(2).split(", *"));
                Check.holds(line + " answered " + got, got.equals(due(call.group(3))));
            }
        }
        Check.holds("every method of the face is called, not " + called,
            called.equals(methodsOfTheFace().keySet()));
    }

    /** The lines of the run, without those that hold only a comment or nothing. */
    private static List<String> runOf(String readme) {
        List<String> lines = new ArrayList<>();
        boolean isInside = false;
        for (String line : readme.lines().toList()) {
            if (line.startsWith("```")) {
                isInside = line.equals("```java");
            } else if (isInside && !line.isBlank() && !line.startsWith("//")) {
                lines.add(line);
            }
        }
        return lines;
    }

    private static String due(String comment) {
        Matcher answer = ANSWER.matcher(comment);
        return answer.matches() ? answer.group(2) : "null";
    }

    private static String answer(NetPoints books, String name, String[] told)
            throws IllegalAccessException {
        Method method = methodsOfTheFace().get(name);
        if (method == null) {
            return "no such method";
        }
        Object[] arguments = new Object[method.getParameterCount()];
        for (int i = 0; i < arguments.length && i < told.length; i++) {
            arguments[i] = argument(told[i]);
        }
        try {
            return String.valueOf(method.invoke(books, arguments));
        } catch (InvocationTargetException e) {
            return e.getCause().getClass().getSimpleName();
        }
    }

    private static Object argument(String told) {
        switch (told) {
            case "true": return true;
            case "false": return false;
            case "NetPoints.GROSS": return NetPoints.GROSS;
            case "NetPoints.NET": return NetPoints.NET;
            default: return Integer.valueOf(told);
        }
    }

    private static Map<String, Method> methodsOfTheFace() {
        Map<String, Method> methods = new TreeMap<>();
        for (Method method : NetPoints.class.getMethods()) {
            if (method.getDeclaringClass() == NetPoints.class) {
                methods.put(method.getName(), method);
            }
        }
        return methods;
    }
}
