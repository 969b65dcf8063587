import java.io.IOException;
import java.lang.reflect.Method;
import java.lang.reflect.Modifier;
import java.nio.file.Files;
import java.nio.file.Path;
import java.util.HashMap;
import java.util.List;
import java.util.Map;
import java.util.regex.Matcher;
import java.util.regex.Pattern;

/** README.md tells each call of the class, and the calls of its example answer what it says. */
public final class ReadmeTest {
    private static final Path README = Path.of("README.md");
    private static final String FIRST_LINE = "UndoMemory memory = new UndoMemory();";
    private static final int FEWEST_CALLS = 10;
    /** A name for the answer, if there is one; the call; its arguments; the answer that is due. */
    private static final Pattern CALL =
        Pattern.compile("(?:int (\\w+) = )?memory\\.(\\w+)\\((.*?)\\); +// (-?\\w+)(?:[:;,].*)?");

    private static int wrong = 0;

    private static void fault(String what) {
        wrong++;
        System.out.println(what);
    }

    public static void main(String[] args) throws Exception {
        exampleAnswersAsItSays();
        eachCallIsTold();
        System.out.println(wrong == 0 ? "README.md is as due" : wrong + " faults");
        if (wrong != 0) {
            System.exit(1);
        }
    }

    private static void exampleAnswersAsItSays() throws Exception {
        UndoMemory memory = new UndoMemory();
        Map<String, Object> named = new HashMap<>();
        List<String> lines = Files.readAllLines(README);
        int at = lines.indexOf(FIRST_LINE) + 1;
        int calls = 0;
        while (at > 0 && at < lines.size() && !lines.get(at).equals("```")) {
            answersAsItSays(memory, lines.get(at), named);
            calls++;
            at++;
        }
        if (calls < FEWEST_CALLS) {
            fault("the example has " + calls + " calls");
        }
    }

    private static void answersAsItSays(UndoMemory memory, String line, Map<String, Object> named)
            throws Exception {
        Matcher call = CALL.matcher(line);
        if (!call.matches()) {
            fault("not a call with its answer: " + line);
            return;
        }
        Object got = answer(memory, call.group(2), call.group(3), named);
        if (!got.toString().equals(call.group(4))) {
            fault(line + " answered " + got);
        }
        if (call.group(1) != null) {
            named.put(call.group(1), got);
        }
    }

    private static Object answer(UndoMemory memory, String name, String given, Map<String, Object> named)
            throws Exception {
        String[] texts = given.isEmpty() ? new String[0] : given.split(", ");
        Method method = methodNamed(name);
        Class<?>[] types = method.getParameterTypes();
        Object[] values = new Object[texts.length];
        for (int i = 0; i < texts.length; i++) {
            values[i] = named.containsKey(texts[i]) ? named.get(texts[i]) : parsed(texts[i], types[i]);
        }
        return method.invoke(memory, values);
    }

    private static Method methodNamed(String name) throws NoSuchMethodException {
        for (Method method : UndoMemory.class.getDeclaredMethods()) {
            if (method.getName().equals(name)) {
                return method;
            }
        }
        throw new NoSuchMethodException(name);
    }

    private static Object parsed(String text, Class<?> type) {
        if (type == boolean.class) {
            return Boolean.valueOf(text);
        }
        if (type == long.class) {
            return Long.valueOf(text);
        }
        return Integer.valueOf(text);
    }

    private static void eachCallIsTold() throws IOException {
        String text = Files.readString(README);
        for (Method method : UndoMemory.class.getDeclaredMethods()) {
            if (Modifier.isPublic(method.getModifiers()) && !text.contains("`" + method.getName() + "(")) {
                fault("README.md does not tell " + method.getName());
            }
        }
    }
}
