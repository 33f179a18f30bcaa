import java.lang.reflect.Method;
import java.nio.charset.StandardCharsets;
import java.nio.file.Files;
import java.nio.file.Path;
import java.util.HashMap;
import java.util.Map;
import java.util.regex.Matcher;
import java.util.regex.Pattern;

/** The examples of README.md answer as it says, and it names every call of the face. */
public final class ReadmeTest {
    private static final Pattern EXAMPLE = Pattern.compile("prison\\.(\\w+)\\((.*?)\\);\\s*// (-?\\d+)\\b.*");
    private static final Due DUE = new Due();

    public static void main(String[] args) throws Exception {
        String readme = Files.readString(Path.of("README.md"), StandardCharsets.UTF_8);
        Map<String, Method> calls = new HashMap<>();
        for (Method method : RiddlePrison.class.getDeclaredMethods()) {
            if ((method.getModifiers() & java.lang.reflect.Modifier.PUBLIC) != 0) {
                calls.put(method.getName(), method);
                DUE.holds("README names " + method.getName(), readme.contains("`" + method.getName() + "("));
            }
        }
        DUE.holds("README names .ci/run", readme.contains("    .ci/run\n"));
        DUE.holds("there are examples", examples(readme, calls) > 20);
        DUE.end();
    }

    private static int examples(String readme, Map<String, Method> calls) throws Exception {
        RiddlePrison prison = new RiddlePrison();
        int asked = 0;
        for (String line : readme.split("\n")) {
            Matcher told = EXAMPLE.matcher(line);
            if (line.equals("RiddlePrison prison = new RiddlePrison();")) {
                prison = new RiddlePrison();
            } else if (told.matches()) {
                DUE.is(line, answer(prison, calls.get(told.group(1)), told.group(2)), Long.parseLong(told.group(3)));
                asked++;
            } else {
                DUE.holds("an example without an answer: " + line, !line.startsWith("prison."));
            }
        }
        return asked;
    }

    private static long answer(RiddlePrison prison, Method call, String told) throws Exception {
        String[] numbers = told.isEmpty() ? new String[0] : told.split(", ");
        Object[] values = new Object[numbers.length];
        for (int k = 0; k < numbers.length; k++) {
            long value = numbers[k].startsWith("'") ? numbers[k].charAt(1) : Long.parseLong(numbers[k]);
            values[k] = call.getParameterTypes()[k] == long.class ? (Object) value : (Object) (int) value;
        }
        return ((Number) call.invoke(prison, values)).longValue();
    }
}
