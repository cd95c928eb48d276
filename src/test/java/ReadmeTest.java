import java.io.IOException;
import java.lang.reflect.InvocationTargetException;
import java.lang.reflect.Method;
import java.nio.file.Files;
import java.nio.file.Path;
import java.util.HashMap;
import java.util.HashSet;
import java.util.Map;
import java.util.Set;
import java.util.regex.Matcher;
import java.util.regex.Pattern;

/** README.md shows each method of the face, and its lines answer what stands behind them. */
public final class ReadmeTest {
    private static final String NEW_OBJECT = "PlanBranches plans = new PlanBranches();";
    /** A call, with the variable that is set to its answer, if there is one, and with its answer. */
    private static final Pattern CALL =
            Pattern.compile("(?:int (\\w+) = )?plans\\.(\\w+)\\((.*)\\); +// ((?:throws )?[\\w.]+)(?:[:;].*)?");

    private static final Map<String, Integer> variables = new HashMap<>();
    private static final Set<String> shown = new HashSet<>();
    private static PlanBranches plans;

    public static void main(String[] args) throws IOException, IllegalAccessException {
        boolean inCode = false;
        for (String line : Files.readString(Path.of("README.md")).split("\n")) {
            if (line.startsWith("```")) {
                inCode = line.equals("```java");
            } else if (inCode) {
                follow(line);
            }
        }
        for (Method method : PlanBranches.class.getMethods()) {
            if (method.getDeclaringClass() == PlanBranches.class) {
                Check.due("README.md shows " + method.getName(), shown.contains(method.getName()), true);
            }
        }
        Check.end();
    }

    private static void follow(String line) throws IllegalAccessException {
        if (line.equals(NEW_OBJECT)) {
            plans = new PlanBranches();
            return;
        }
        Matcher call = CALL.matcher(line);
        if (!call.matches() || plans == null) {
            throw new IllegalStateException("README.md has a line that cannot be followed: " + line);
        }
        String answer = answer(call.group(2), call.group(3).isEmpty() ? new String[0] : call.group(3).split(", "));
        Check.due("README.md: " + line, answer, wanted(call.group(4)));
        if (call.group(1) != null) {
            variables.put(call.group(1), Integer.valueOf(answer));
        }
        shown.add(call.group(2));
    }

    private static String answer(String name, String[] words) throws IllegalAccessException {
        Method method = methodOf(name);
        Object[] with = new Object[words.length];
        for (int at = 0; at < words.length; at++) {
            with[at] = method.getParameterTypes()[at] == boolean.class ? Boolean.valueOf(words[at]) : number(words[at]);
        }
        try {
            return method.invoke(plans, with).toString();
        } catch (InvocationTargetException e) {
            return "throws " + e.getCause().getClass().getSimpleName();
        }
    }

    private static Method methodOf(String name) {
        for (Method method : PlanBranches.class.getMethods()) {
            if (method.getName().equals(name)) {
                return method;
            }
        }
        throw new IllegalStateException("README.md calls what is not there: " + name);
    }

    private static String wanted(String words) throws IllegalAccessException {
        boolean asItStands = words.startsWith("throws ") || words.equals("true") || words.equals("false");
        return asItStands ? words : String.valueOf(number(words));
    }

    private static Object number(String word) throws IllegalAccessException {
        if (variables.containsKey(word)) {
            return variables.get(word);
        }
        if (word.startsWith("PlanBranches.")) {
            return constant(word.substring("PlanBranches.".length()));
        }
        return word.startsWith("0b") ? Integer.valueOf(word.substring(2), 2) : Integer.valueOf(word);
    }

    private static Object constant(String name) throws IllegalAccessException {
        try {
            return PlanBranches.class.getField(name).getInt(null);
        } catch (NoSuchFieldException e) {
            throw new IllegalStateException("README.md names what is not there: " + name, e);
        }
    }
}
