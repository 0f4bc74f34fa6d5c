import java.lang.reflect.Method;
import java.nio.charset.StandardCharsets;
import java.nio.file.Files;
import java.nio.file.Path;
import java.util.HashMap;
import java.util.HashSet;
import java.util.Map;
import java.util.Set;
import java.util.regex.Matcher;
import java.util.regex.Pattern;

/** The examples of README.md, one behind the other on one object: each answers what stands behind it. */
public final class ReadmeTest {
    private static final Due due = new Due("ReadmeTest");
    private static final Pattern FENCE = Pattern.compile("(?s)```java\n(.*?)```");
    private static final Pattern CALL = Pattern.compile("paths\\.(\\w+)\\(([-\\d, ]*)\\);\\s*// (-?\\d+|NO)\\b.*");
    private static final Pattern FEED = Pattern.compile("for \\(char sign : \"(.*)\"\\.toCharArray\\(\\)\\) \\{ paths\\.feed\\(sign\\); \\}");
    private static final String NEW = "StairPaths paths = new StairPaths();";

    private static final Map<String, Method> face = new HashMap<>();
    private static final Set<String> shown = new HashSet<>();
    private static StairPaths paths = new StairPaths();
    private static int calls = 0;

    public static void main(String[] args) throws Exception {
        for (Method method : StairPaths.class.getMethods()) {
            if (method.getDeclaringClass() == StairPaths.class) {
                face.put(method.getName(), method);
            }
        }
        Matcher fence = FENCE.matcher(Files.readString(Path.of("README.md"), StandardCharsets.UTF_8));
        while (fence.find()) {
            for (String line : fence.group(1).split("\n")) {
                play(line);
            }
        }
        due.is("each call of the face is shown, but not", Set.of().toString(), notShown().toString());
        due.holds("an object is used for 512 calls at most, here " + calls, calls <= 512);
        due.end();
    }

    private static void play(String line) throws Exception {
        Matcher call = CALL.matcher(line);
        Matcher feed = FEED.matcher(line);
        if (call.matches()) {
            String answer = call.group(3);
            long want = answer.equals("NO") ? StairPaths.NO : Long.parseLong(answer);
            due.is(line, want, answered(call.group(1), call.group(2)));
        } else if (feed.matches()) {
            Stairs.feed(paths, feed.group(1));
            calls += feed.group(1).length();
            shown.add("feed");
        } else {
            due.holds("an example as the others are: " + line, line.startsWith(NEW));
        }
    }

    private static long answered(String name, String given) throws Exception {
        calls++;
        shown.add(name);
        Method method = face.get(name);
        String[] texts = given.isEmpty() ? new String[0] : given.split(", ");
        Object[] numbers = new Object[texts.length];
        for (int k = 0; k < texts.length; k++) {
            if (method.getParameterTypes()[k] == long.class) {
                numbers[k] = Long.parseLong(texts[k]);
            } else {
                numbers[k] = Integer.parseInt(texts[k]);
            }
        }
        return ((Number) method.invoke(paths, numbers)).longValue();
    }

    private static Set<String> notShown() {
        Set<String> left = new HashSet<>(face.keySet());
        left.removeAll(shown);
        return left;
    }
}
