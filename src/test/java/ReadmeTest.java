import java.io.IOException;
import java.lang.reflect.Method;
import java.nio.file.Files;
import java.nio.file.Path;
import java.util.HashMap;
import java.util.Map;
import java.util.regex.Matcher;
import java.util.regex.Pattern;

/** The examples of README.md: each call is made, and its answer is the one that stands behind it. */
public final class ReadmeTest {
    private static final Pattern MADE = Pattern.compile("TurnHost host = new TurnHost\\((\\d+)\\);");
    private static final Pattern CALL = Pattern.compile("(?:int (\\w+) = )?host\\.(\\w+)\\((.*)\\); +// (-?\\d+|true|false)(?:: .*)?");

    private final Map<String, Integer> named = new HashMap<>();
    private final Map<String, Method> face = new HashMap<>();
    private TurnHost host;
    private int examples;
    private int calls;

    public static void main(String[] args) throws IOException, ReflectiveOperationException {
        ReadmeTest test = new ReadmeTest();
        boolean inside = false;
        for (String line : Files.readAllLines(Path.of("README.md"))) {
            if (line.startsWith("```")) {
                inside = line.equals("```java");
            } else if (inside) {
                test.follow(line);
            }
        }
        Kit.due("examples", test.examples, 2);
        Kit.due("calls in them", test.calls > 20, true);
        Kit.finish();
    }

    private ReadmeTest() {
        for (Method m : TurnHost.class.getDeclaredMethods()) {
            face.put(m.getName(), m);
        }
    }

    private void follow(String line) throws ReflectiveOperationException {
        Matcher made = MADE.matcher(line);
        Matcher call = CALL.matcher(line);
        if (made.matches()) {
            host = new TurnHost(Integer.parseInt(made.group(1)));
            named.clear();
            examples++;
        } else if (call.matches()) {
            String answer = face.get(call.group(2)).invoke(host, numbers(call.group(3))).toString();
            Kit.due("README.md: " + line, answer, call.group(4));
            if (call.group(1) != null) {
                named.put(call.group(1), Integer.valueOf(answer));
            }
            calls++;
        } else {
            Kit.due("README.md, a line that can't be followed", line, "");
        }
    }

    private Object[] numbers(String list) {
        if (list.isEmpty()) {
            return new Object[0];
        }
        String[] texts = list.split(", ");
        Object[] all = new Object[texts.length];
        for (int k = 0; k < texts.length; k++) {
            all[k] = number(texts[k]);
        }
        return all;
    }

    private Object number(String text) {
        if (text.equals("true") || text.equals("false")) {
            return Boolean.valueOf(text);
        }
        Integer value = named.get(text);
        return value == null ? Integer.valueOf(text) : value;
    }
}
