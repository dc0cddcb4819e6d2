import java.io.IOException;
import java.lang.reflect.Method;
import java.lang.reflect.Modifier;
import java.nio.file.Files;
import java.nio.file.Path;
import java.util.HashMap;
import java.util.List;
import java.util.Map;
import java.util.regex.Matcher;
import java.util.regex.Pattern;

/** The example of README.md, line by line, answers as told behind it; each call of the face is told there. */
public final class ReadmeTest {
    private static final Pattern CALL =
        Pattern.compile("\\s*(?:int (\\w+) = )?island\\.(\\w+)\\(([^)]*)\\);\\s*// (-?\\d+):.*");
    private static final Pattern TEXT = Pattern.compile("for \\(char sign : \"(.*)\"\\.toCharArray\\(\\)\\) \\{");

    private final OneMourner island = new OneMourner();
    private final Map<String, Integer> names = new HashMap<>();
    private String text = "";

    public static void main(String[] args) throws IOException, ReflectiveOperationException {
        List<String> readme = Files.readAllLines(Path.of("README.md"));
        new ReadmeTest().example(readme.subList(readme.indexOf("```java") + 1, readme.size()));
        String all = String.join("\n", readme);
        for (Method method : OneMourner.class.getDeclaredMethods()) {
            if (Modifier.isPublic(method.getModifiers())) {
                Due.due(method.getName() + " is told", all.contains("`" + method.getName() + "(") ? 1 : 0, 1);
            }
        }
        Due.end();
    }

    private void example(List<String> lines) throws ReflectiveOperationException {
        int calls = 0;
        for (String line : lines.subList(1, lines.indexOf("```"))) {
            Matcher told = TEXT.matcher(line);
            Matcher call = CALL.matcher(line);
            if (told.matches()) {
                text = told.group(1);
            } else if (call.matches()) {
                long answer = answer(call.group(2), call.group(3));
                Due.due(line.trim(), answer, Long.parseLong(call.group(4)));
                names.put(call.group(1), (int) answer);
                calls++;
            } else {
                Due.due(line + " is a call, or ends one", line.equals("}") ? 1 : 0, 1);
            }
        }
        Due.due("calls of the example are many", calls > 10 ? 1 : 0, 1);
    }

    private long answer(String name, String given) throws ReflectiveOperationException {
        if (name.equals("feed")) {
            int size = 0;
            for (char sign : text.toCharArray()) {
                size = island.feed(sign);
            }
            return size;
        }
        String[] words = given.isEmpty() ? new String[0] : given.split(", ");
        Class<?>[] types = new Class<?>[words.length];
        Object[] numbers = new Object[words.length];
        for (int w = 0; w < words.length; w++) {
            types[w] = int.class;
            numbers[w] = names.containsKey(words[w]) ? names.get(words[w]) : Integer.valueOf(words[w]);
        }
        return ((Number) OneMourner.class.getMethod(name, types).invoke(island, numbers)).longValue();
    }
}
