import java.io.IOException;
import java.lang.reflect.InvocationTargetException;
import java.lang.reflect.Method;
import java.lang.reflect.Modifier;
import java.nio.file.Files;
import java.nio.file.Path;
import java.util.Arrays;
import java.util.Set;
import java.util.TreeSet;
import java.util.regex.Matcher;
import java.util.regex.Pattern;

/**
 * The example of README.md is read from there and made call by call: each answer that stands beside a call is the one
 * that the class gives. A line that is no such call fails, so that nothing in the example goes unlooked at.
 */
public final class ReadmeTest extends Checks {
    private static final Path README = Path.of("README.md");
    private static final String EXAMPLE_BEGINS = "```java";
    private static final String EXAMPLE_ENDS = "```";
    private static final String MAKING = "GameGraph game = new GameGraph();";
    private static final String THROWS = "throws ";
    private static final Pattern CALL = Pattern.compile("game\\.(\\w+)\\(((-?\\d+(, -?\\d+)*)?)\\);");

    private static final Set<String> called = new TreeSet<>();
    private static GameGraph game;

    private static void followReadme() throws IOException {
        boolean inExample = false;
        for (String line : Files.readAllLines(README)) {
            if (line.strip().equals(inExample ? EXAMPLE_ENDS : EXAMPLE_BEGINS)) {
                inExample = !inExample;
                game = null;
            } else if (inExample && !line.isBlank()) {
                followLine(line);
            }
        }
        if (inExample) {
            fail("the example of README.md does not end");
        }
    }

    private static void followLine(String line) {
        String[] parts = line.split("//", 2);
        String code = parts[0].strip();
        Matcher call = CALL.matcher(code);
        if (code.equals(MAKING) && game == null) {
            game = new GameGraph();
        } else if (game != null && call.matches()) {
            makeCall(line, call.group(1), numbersIn(call.group(2)), beside(parts));
        } else {
            fail("README.md: not a call that can be made here: " + line);
        }
    }

    private static Object[] numbersIn(String list) {
        return list.isEmpty() ? new Object[0] : Arrays.stream(list.split(", ")).map(Integer::valueOf).toArray();
    }

    /** What stands beside a call up to the first colon; behind it stands why. */
    private static String beside(String[] parts) {
        return parts.length < 2 ? "" : parts[1].split(":", 2)[0].strip();
    }

    private static void makeCall(String line, String name, Object[] arguments, String answer) {
        Class<?>[] types = new Class<?>[arguments.length];
        Arrays.fill(types, int.class);
        try {
            Method method = GameGraph.class.getMethod(name, types);
            called.add(name);
            boolean answers = method.getReturnType() == int.class;
            due("README.md: " + line, dueOf(answer, answers), () -> answerOf(method, arguments));
        } catch (NoSuchMethodException e) {
            fail("README.md: the class has no such method: " + line);
        }
    }

    /** A call that answers nothing counts as 0; the words beside it are then for the reader alone. */
    private static String dueOf(String answer, boolean answers) {
        if (answer.startsWith(THROWS)) {
            return answer.substring(THROWS.length());
        }
        if (!answers) {
            return "0";
        }
        return answer.equals("NONE") ? Integer.toString(GameGraph.NONE) : answer;
    }

    private static int answerOf(Method method, Object[] arguments) {
        try {
            Object answer = method.invoke(game, arguments);
            return answer == null ? 0 : (Integer) answer;
        } catch (InvocationTargetException e) {
            if (e.getCause() instanceof RuntimeException thrown) {
                throw thrown;
            }
            throw new AssertionError(e.getCause());
        } catch (IllegalAccessException e) {
            throw new AssertionError(e);
        }
    }

    /** An example that leaves a method out, or is gone, would say too little of the use. */
    private static void eachMethodIsCalled() {
        for (Method method : GameGraph.class.getDeclaredMethods()) {
            if (Modifier.isPublic(method.getModifiers()) && !called.contains(method.getName())) {
                fail("the example of README.md has no call of " + method.getName() + "()");
            }
        }
    }

    public static void main(String[] args) throws IOException {
        followReadme();
        eachMethodIsCalled();
        finish();
    }
}
