import java.io.IOException;
import java.lang.reflect.InvocationTargetException;
import java.lang.reflect.Method;
import java.nio.file.Files;
import java.nio.file.Path;
import java.util.regex.Matcher;
import java.util.regex.Pattern;

/** The example of README.md: each of its calls is made, in its order, and must answer what stands behind it there. */
public final class PegboardryReadme {
    // If the example's form changes so that no line is recognised, the test must not pass for want of calls.
    private static final int FEWEST_CALLS = 25;
    private static final Pattern CALL =
            Pattern.compile("house\\.(\\w+)\\(([-0-9, ]*)\\);\\s+// (throws \\w+|'\\w'|\\w+(?:\\.\\d+)?)(?::.*)?");

    private static int wrongAnswers = 0;

    public static void main(String[] args) throws IOException {
        Pegboardry house = new Pegboardry();
        int calls = 0;
        for (String line : Files.readAllLines(Path.of("README.md"))) {
            Matcher call = CALL.matcher(line);
            if (call.matches()) {
                calls++;
                compare(line, answerOf(house, call.group(1), call.group(2)), call.group(3));
            } else if (line.startsWith("house.")) {
                compare(line, "not understood", "a call with its answer");
            }
        }
        if (calls < FEWEST_CALLS) {
            compare("README.md", calls + " calls", "at least " + FEWEST_CALLS);
        }
        System.out.println(calls + " calls of README.md made, " + wrongAnswers + " answers not as told there");
        if (wrongAnswers != 0) {
            System.exit(1);
        }
    }

    private static void compare(String line, String got, String told) {
        if (!got.equals(told)) {
            wrongAnswers++;
            System.out.println(line + " -- answered " + got + ", README.md tells " + told);
        }
    }

    private static String answerOf(Pegboardry house, String name, String numbers) {
        String[] written = numbers.isEmpty() ? new String[0] : numbers.split(", ");
        Object[] arguments = new Object[written.length];
        for (int i = 0; i < written.length; i++) {
            arguments[i] = Integer.valueOf(written[i]);
        }
        for (Method method : Pegboardry.class.getMethods()) {
            if (method.getName().equals(name) && method.getParameterCount() == arguments.length) {
                return answerOf(house, method, arguments);
            }
        }
        return "no such method";
    }

    private static String answerOf(Pegboardry house, Method method, Object[] arguments) {
        try {
            Object answer = method.invoke(house, arguments);
            return answer instanceof Character ? "'" + answer + "'" : String.valueOf(answer);
        } catch (InvocationTargetException e) {
            return "throws " + e.getCause().getClass().getSimpleName();
        } catch (IllegalAccessException | IllegalArgumentException e) {
            return "not callable: " + e;
        }
    }
}
