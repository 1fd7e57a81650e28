import java.io.IOException;
import java.lang.reflect.Method;
import java.lang.reflect.Modifier;
import java.nio.file.Files;
import java.nio.file.Path;
import java.util.HashMap;
import java.util.Map;
import java.util.regex.Matcher;
import java.util.regex.Pattern;

/** README.md tells the truth: its example answers what stands there; run from the project's root. */
public final class ReadmeTest {
    private static final Due DUE = new Due("ReadmeTest");
    private static final Pattern BLOCK = Pattern.compile("(?s)```java\n(.*?)```");
    private static final Pattern CALL =
        Pattern.compile("(?:int (\\w+) = )?index\\.(\\w+)\\((.*?)\\); +// (-?\\w+): .*");

    /** What stands in the example for a number: constants, and answers that were given a name. */
    private static final Map<String, Integer> NAMED = new HashMap<>(Map.of(
        "NONE", LiveViews.NONE, "UNKNOWN", LiveViews.UNKNOWN, "OUTSIDE", LiveViews.OUTSIDE,
        "CONFLICT", LiveViews.CONFLICT, "ROOM", LiveViews.ROOM));

    public static void main(String[] args) throws IOException, ReflectiveOperationException {
        String text = Files.readString(Path.of("README.md"));
        Matcher block = BLOCK.matcher(text);
        DUE.holds("there is an example", block.find());
        example(block.group(1));
        everyCallIsTold(text);
        refusals(text);
        DUE.end();
    }

    private static void example(String code) throws ReflectiveOperationException {
        String[] lines = code.split("\n");
        DUE.holds(lines[0], lines[0].equals("LiveViews index = new LiveViews();"));
        LiveViews index = new LiveViews();
        for (int i = 1; i < lines.length; i++) {
            Matcher call = CALL.matcher(lines[i]);
            boolean isCall = call.matches();
            DUE.holds("a call with its answer: " + lines[i], isCall);
            if (isCall) {
                int answer = answer(index, call.group(2), call.group(3));
                DUE.is(lines[i], answer, valueOf(call.group(4)));
                if (call.group(1) != null) {
                    NAMED.put(call.group(1), answer);
                }
            }
        }
    }

    private static int answer(LiveViews index, String name, String list)
            throws ReflectiveOperationException {
        String[] texts = list.isEmpty() ? new String[0] : list.split(", ");
        Object[] arguments = new Object[texts.length];
        Class<?>[] types = new Class<?>[texts.length];
        for (int i = 0; i < texts.length; i++) {
            arguments[i] = valueOf(texts[i]);
            types[i] = int.class;
        }
        return (Integer) LiveViews.class.getMethod(name, types).invoke(index, arguments);
    }

    private static int valueOf(String text) {
        String name = text.replace("LiveViews.", "");
        return NAMED.containsKey(name) ? NAMED.get(name) : Integer.parseInt(name);
    }

    private static void everyCallIsTold(String text) {
        for (Method method : LiveViews.class.getDeclaredMethods()) {
            if (Modifier.isPublic(method.getModifiers())) {
                String place = "[a-z]+(, [a-z]+){" + (method.getParameterCount() - 1) + "}";
                String list = method.getParameterCount() == 0 ? "" : place;
                DUE.holds("told: " + method.getName(), Pattern.compile(
                    "\n\\|[^|]*`" + method.getName() + "\\(" + list + "\\)`").matcher(text).find());
            }
        }
    }

    private static void refusals(String text) {
        for (String name : new String[] {"NONE", "UNKNOWN", "OUTSIDE", "CONFLICT", "ROOM"}) {
            DUE.holds(name, text.contains("`" + name + "` (" + NAMED.get(name) + ")"));
        }
    }
}
