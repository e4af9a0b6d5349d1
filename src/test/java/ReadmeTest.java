import java.io.File;
import java.lang.reflect.Method;
import java.lang.reflect.Modifier;
import java.nio.file.Files;
import java.nio.file.Path;
import java.util.HashMap;
import java.util.List;
import java.util.Map;
import java.util.regex.Matcher;
import java.util.regex.Pattern;

/** README.md shows how to use the class: its run of calls is made, and must answer as it says. */
public final class ReadmeTest {
    private static final Pattern MADE =
            Pattern.compile("GlobeWorks works = new GlobeWorks\\((\\d+)\\); +// (\\d+) gores.*");
    private static final Pattern CALL =
            Pattern.compile("(?:int (\\w+) = )?works\\.(\\w+)\\((.*)\\); +// (-?\\d+|true|false):.*");

    private final Map<String, Integer> kept = new HashMap<>();
    private GlobeWorks works;

    public static void main(String[] args) throws Exception {
        List<String> page = Files.readAllLines(Path.of("README.md"));
        new ReadmeTest().run(page.subList(page.indexOf("```java") + 1, page.lastIndexOf("```")));
        everyCallIsThere(String.join("\n", page));
        everyTestIsThere(String.join("\n", page));
        Check.end();
    }

    private void run(List<String> lines) throws Exception {
        Matcher made = MADE.matcher(lines.get(0));
        Check.due("begins with an object: " + lines.get(0), made.matches(), true);
        works = new GlobeWorks(Integer.parseInt(made.group(1)));
        Check.due(lines.get(0), works.count(0), Integer.parseInt(made.group(2)));
        for (String line : lines.subList(1, lines.size())) {
            Matcher call = CALL.matcher(line);
            if (call.matches()) {
                makeCall(line, call);
            } else {
                Check.due(line, "no call with its answer", "a call with its answer");
            }
        }
    }

    private void makeCall(String line, Matcher call) throws Exception {
        String[] given = call.group(3).isEmpty() ? new String[0] : call.group(3).split(", ");
        Object[] values = new Object[given.length];
        Class<?>[] types = new Class<?>[given.length];
        for (int k = 0; k < given.length; k++) {
            types[k] = int.class;
            values[k] = kept.containsKey(given[k]) ? kept.get(given[k]) : Integer.valueOf(given[k]);
        }
        Object answer = GlobeWorks.class.getMethod(call.group(2), types).invoke(works, values);
        Check.due(line, answer.toString(), call.group(4));
        if (call.group(1) != null) {
            kept.put(call.group(1), (Integer) answer);
        }
    }

    private static void everyCallIsThere(String page) {
        for (Method method : GlobeWorks.class.getDeclaredMethods()) {
            if (Modifier.isPublic(method.getModifiers())) {
                Check.due("a row of " + method.getName(), page.contains("\n| `" + method.getName() + "("), true);
            }
        }
    }

    private static void everyTestIsThere(String page) {
        for (String file : new File("src/test/java").list()) {
            if (file.endsWith("Test.java")) {
                String test = file.substring(0, file.length() - ".java".length());
                Check.due("a row of " + test, page.contains("\n| `" + test + "` |"), true);
            }
        }
    }
}
