import java.io.IOException;
import java.lang.reflect.Method;
import java.lang.reflect.Modifier;
import java.nio.file.Files;
import java.nio.file.Path;
import java.util.Set;
import java.util.TreeSet;
import java.util.regex.Matcher;
import java.util.regex.Pattern;

/** README.md's run of calls: each answers what stands behind it, and every call of the face is shown. */
public final class ReadmeTest {
    private static final Pattern TOWN = Pattern.compile("for \\(char c : \"([^\"]*)\"");
    private static final Pattern ROW =
        Pattern.compile("(?m)^x\\.(\\w+)\\(([-\\d, ]*)\\);\\s+// (-?\\d+|BAD|STATE|FULL|NONE|NO)\\b");

    private ReadmeTest() {
    }

    public static void main(String[] args) throws ReflectiveOperationException, IOException {
        String code = example();
        LightCoins x = new LightCoins();
        Set<String> shown = new TreeSet<>();
        typeTown(x, code);
        shown.add("type");
        Matcher row = ROW.matcher(code);
        int rows = 0;
        while (row.find()) {
            Check.due(row.group(), answer(x, row.group(1), row.group(2)), due(row.group(3)));
            shown.add(row.group(1));
            rows++;
        }
        Check.due("rows that tell an answer", rows, code.lines().filter(l -> l.startsWith("x.")).count());
        Check.holds("every call is shown, not only " + shown, shown.equals(callsOfTheFace()));
        Check.finish();
    }

    /** .ci/run starts the tests in the project's own folder. */
    private static String example() throws IOException {
        String page = Files.readString(Path.of("README.md"));
        int from = page.indexOf("```java\n");
        int to = page.indexOf("\n```", from + 1);
        Check.holds("there is an example", from >= 0 && to > from);
        return from >= 0 && to > from ? page.substring(from, to) : "";
    }

    private static void typeTown(LightCoins x, String code) {
        Matcher town = TOWN.matcher(code);
        boolean found = town.find();
        Check.holds("a town is typed", found);
        if (found) {
            for (char c : town.group(1).toCharArray()) {
                x.type(c, 1);
            }
        }
    }

    private static long answer(LightCoins x, String name, String numbers) throws ReflectiveOperationException {
        String[] parts = numbers.isBlank() ? new String[0] : numbers.split(",");
        Class<?>[] types = new Class<?>[parts.length];
        Object[] values = new Object[parts.length];
        for (int i = 0; i < parts.length; i++) {
            types[i] = int.class;
            values[i] = Integer.valueOf(parts[i].trim());
        }
        return ((Number) LightCoins.class.getMethod(name, types).invoke(x, values)).longValue();
    }

    private static long due(String told) throws ReflectiveOperationException {
        if (Character.isUpperCase(told.charAt(0))) {
            return ((Number) LightCoins.class.getField(told).get(null)).longValue();
        }
        return Long.parseLong(told);
    }

    private static Set<String> callsOfTheFace() {
        Set<String> names = new TreeSet<>();
        for (Method m : LightCoins.class.getDeclaredMethods()) {
            if (Modifier.isPublic(m.getModifiers())) {
                names.add(m.getName());
            }
        }
        return names;
    }
}
