import java.lang.reflect.Method;
import java.lang.reflect.Modifier;
import java.nio.file.Files;
import java.nio.file.Path;
import java.util.regex.Matcher;
import java.util.regex.Pattern;

/** README.md tells every call, and its example answers what its comments say. */
public final class ReadmeTest {
    private static final Pattern FED = Pattern.compile("for \\(char letter : \"([^\"]*)\"\\.toCharArray\\(\\)\\) x\\.feed\\(letter\\);");
    private static final Pattern ROW = Pattern.compile("x\\.(\\w+)\\(([^)]*)\\);\\s*// (-?\\d+): .*");

    public static void main(String[] args) throws Exception {
        String readme = Files.readString(Path.of("README.md"));
        everyCall(readme);
        example(readme);
        Check.end("ReadmeTest");
    }

    private static void everyCall(String readme) {
        for (Method m : JourneyRoads.class.getDeclaredMethods()) {
            if (Modifier.isPublic(m.getModifiers())) {
                Check.holds("README.md tells " + m.getName(), readme.contains("`" + m.getName() + "("));
            }
        }
    }

    private static void example(String readme) throws Exception {
        int begin = readme.indexOf("```java\n");
        int end = readme.indexOf("```", begin + 3);
        Check.holds("README.md has an example", begin >= 0 && end > begin);
        JourneyRoads x = null;
        int rows = 0;
        for (String line : readme.substring(begin + 8, end).split("\n")) {
            Matcher fed = FED.matcher(line);
            Matcher row = ROW.matcher(line);
            if (line.equals("JourneyRoads x = new JourneyRoads();")) {
                x = new JourneyRoads();
            } else if (fed.matches()) {
                Check.feed(x, fed.group(1));
            } else if (row.matches()) {
                rows++;
                Check.due(line, call(x, row.group(1), row.group(2)), Long.parseLong(row.group(3)));
            } else {
                Check.holds("a row of the example can be played: " + line, false);
            }
        }
        Check.holds("the example has rows", rows > 10);
    }

    private static int call(JourneyRoads x, String name, String list) throws Exception {
        String[] parts = list.isEmpty() ? new String[0] : list.split(", ");
        Class<?>[] types = new Class<?>[parts.length];
        Object[] values = new Object[parts.length];
        for (int i = 0; i < parts.length; i++) {
            types[i] = int.class;
            values[i] = Integer.valueOf(parts[i]);
        }
        return (Integer) JourneyRoads.class.getMethod(name, types).invoke(x, values);
    }
}
