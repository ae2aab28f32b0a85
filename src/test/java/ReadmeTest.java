import java.io.IOException;
import java.lang.reflect.InvocationTargetException;
import java.lang.reflect.Method;
import java.lang.reflect.Modifier;
import java.nio.file.Files;
import java.nio.file.Path;
import java.util.HashMap;
import java.util.Map;
import java.util.regex.Matcher;
import java.util.regex.Pattern;

/** What README.md shows of calls and their answers is so, and it names each call of the face. */
public final class ReadmeTest {
    private static final Pattern CALL = Pattern.compile("^x\\.(\\w+)\\(([-0-9, ]*)\\);\\s*// (-?\\d+):.*");
    private static final Pattern FED = Pattern.compile("^for \\(char c : \"([^\"]*)\"\\.toCharArray\\(\\)\\) x\\.feed\\(c\\);$");

    private final LawsLapse x = new LawsLapse();
    private final Map<String, Method> face = new HashMap<>();
    private int shown;

    private ReadmeTest() {
        for (Method method : LawsLapse.class.getDeclaredMethods()) {
            if (Modifier.isPublic(method.getModifiers())) face.put(method.getName(), method);
        }
    }

    public static void main(String[] args) throws IOException, IllegalAccessException, InvocationTargetException {
        Due.of("README.md");
        String text = Files.readString(Path.of("README.md"));
        ReadmeTest test = new ReadmeTest();
        boolean isCode = false;
        for (String line : text.split("\n")) {
            if (line.startsWith("```")) isCode = line.equals("```java");
            else if (isCode) test.show(line);
        }
        Due.is(1, test.shown > 12 ? 1 : 0, "README.md, for any calls that it shows,");
        test.names(text);
        Due.end("ReadmeTest");
    }

    /** A line of code that the test can't read is a fault, too: else it would go unlooked at. */
    private void show(String line) throws IllegalAccessException, InvocationTargetException {
        Matcher fed = FED.matcher(line);
        Matcher call = CALL.matcher(line);
        if (fed.matches()) {
            Due.is(0, x.count(4), "bytes of THE TAPE ahead of " + line);
            for (char c : fed.group(1).toCharArray()) x.feed(c);
            Due.is(fed.group(1).length(), x.count(4), "bytes of THE TAPE behind " + line);
        } else if (call.matches() && face.containsKey(call.group(1))) {
            Object answer = face.get(call.group(1)).invoke(x, ints(call.group(2)));
            Due.is(Long.parseLong(call.group(3)), ((Number) answer).longValue(), line);
            shown++;
        } else {
            Due.is(1, line.startsWith("LawsLapse x = new LawsLapse();") ? 1 : 0, "a line that shows no call: " + line);
        }
    }

    private static Object[] ints(String list) {
        if (list.isBlank()) return new Object[0];
        String[] parts = list.split(",");
        Object[] ints = new Object[parts.length];
        for (int i = 0; i < parts.length; i++) ints[i] = Integer.parseInt(parts[i].trim());
        return ints;
    }

    private void names(String text) {
        for (String name : face.keySet()) {
            Due.is(1, text.contains("`" + name + "`") ? 1 : 0, "README.md, for the call `" + name + "`,");
        }
    }
}
