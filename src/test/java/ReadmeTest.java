import java.io.IOException;
import java.lang.reflect.InvocationTargetException;
import java.lang.reflect.Method;
import java.lang.reflect.Modifier;
import java.nio.file.Files;
import java.nio.file.Path;
import java.util.HashMap;
import java.util.Map;
import java.util.regex.Matcher;
import java.util.regex.Pattern;

/** The calls that README.md shows, one run on one engine, answer what stands behind them there. */
public final class ReadmeTest {
    private static final Path PAGE = Path.of("README.md");
    private static final Pattern BLOCK = Pattern.compile("(?s)```java\n(.*?)```");
    private static final Pattern CALL =
            Pattern.compile("(?:int (\\w+) = )?engine\\.(\\w+)\\(([^)]*)\\); +// ([^ :]+)(?:: .*)?");
    private static final String FIRST = "QuarryIndex engine = new QuarryIndex();";

    private final Check check = new Check("ReadmeTest");
    private final QuarryIndex engine = new QuarryIndex();
    private final Map<String, Integer> named = new HashMap<>();
    private int calls;

    private ReadmeTest() {
    }

    public static void main(String[] args) throws IOException {
        new ReadmeTest().lookAt(Files.readString(PAGE));
    }

    private void lookAt(String page) {
        StringBuilder code = new StringBuilder();
        Matcher block = BLOCK.matcher(page);
        while (block.find()) {
            code.append(block.group(1));
        }
        String[] lines = code.toString().split("\n");
        check.same("the first line", lines[0], FIRST);
        for (int line = 1; line < lines.length; line++) {
            lookAtLine(lines[line]);
        }
        check.same("not more than 512 calls", calls <= 512, true);
        for (Method method : QuarryIndex.class.getDeclaredMethods()) {
            if (Modifier.isPublic(method.getModifiers())) {
                String call = "engine." + method.getName() + "(";
                check.same("shows " + call, code.indexOf(call) >= 0, true);
            }
        }
        check.end();
    }

    private void lookAtLine(String line) {
        Matcher call = CALL.matcher(line);
        boolean isCall = call.matches();
        check.same("a call with its answer: " + line, isCall, true);
        if (!isCall) {
            return;
        }
        calls++;
        String answer = answer(call.group(2), call.group(3));
        check.same(line, answer, call.group(4));
        if (call.group(1) != null && answer.matches("\\d+")) {
            named.put(call.group(1), Integer.valueOf(answer));
        }
    }

    private String answer(String name, String arguments) {
        try {
            for (Method method : QuarryIndex.class.getMethods()) {
                if (method.getName().equals(name)) {
                    return String.valueOf(method.invoke(engine, told(arguments)));
                }
            }
            return "there is no such call";
        } catch (InvocationTargetException thrown) {
            return "throws." + thrown.getCause().getClass().getSimpleName();
        } catch (IllegalAccessException | IllegalArgumentException thrown) {
            return "such a call cannot be made";
        }
    }

    private Object[] told(String arguments) {
        String[] texts = arguments.isEmpty() ? new String[0] : arguments.split(", ");
        Object[] told = new Object[texts.length];
        for (int index = 0; index < texts.length; index++) {
            told[index] = value(texts[index]);
        }
        return told;
    }

    private Object value(String text) {
        if (text.matches("-?\\d+")) {
            return Integer.valueOf(text);
        }
        return text.equals("true") || text.equals("false") ? Boolean.valueOf(text) : named.get(text);
    }
}
