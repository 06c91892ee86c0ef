import java.lang.reflect.Method;
import java.lang.reflect.Modifier;
import java.nio.file.Files;
import java.nio.file.Path;
import java.util.Arrays;
import java.util.regex.Matcher;
import java.util.regex.Pattern;

/** The example of README.md: each call answers what stands behind it. */
public final class ReadmeTest {
    private static final Pattern CALL = Pattern.compile("hut\\.(\\w+)\\(([^)]*)\\); +// (true|false|-?\\d+)\\b.*");
    private static final Check CHECK = new Check();

    public static void main(String[] args) throws Exception {
        String text = Files.readString(Path.of("README.md"));
        int begin = text.indexOf("```java\n");
        int end = text.indexOf("```", begin + 3);
        CHECK.due("README.md has an example", begin >= 0 && end > begin, true);
        GlassHut hut = new GlassHut();
        int calls = 0;
        for (String line : text.substring(begin, end).split("\n")) {
            if (line.startsWith("hut.")) {
                answers(hut, line);
                calls++;
            }
        }
        CHECK.due("the example has calls", calls > 0, true);
        everyCallIsTold(text);
        CHECK.finish();
    }

    private static void answers(GlassHut hut, String line) throws Exception {
        Matcher parts = CALL.matcher(line);
        CHECK.due("an answer is told: " + line, parts.matches(), true);
        if (!parts.matches()) {
            return;
        }
        String numbers = parts.group(2).replace(" ", "");
        String[] each = numbers.isEmpty() ? new String[0] : numbers.split(",");
        Object[] told = Arrays.stream(each).map(Integer::decode).toArray();
        Class<?>[] types = new Class<?>[told.length];
        Arrays.fill(types, int.class);
        Method call = GlassHut.class.getMethod(parts.group(1), types);
        String got = call.invoke(hut, told).toString();
        CHECK.due(line + " (answer " + got + ")", got.equals(parts.group(3)), true);
    }

    private static void everyCallIsTold(String text) {
        for (Method one : GlassHut.class.getDeclaredMethods()) {
            if (Modifier.isPublic(one.getModifiers())) {
                CHECK.due("README.md names " + one.getName(), text.contains("`" + one.getName() + "`"), true);
            }
        }
    }
}
