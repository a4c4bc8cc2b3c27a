import java.io.IOException;
import java.lang.reflect.Constructor;
import java.lang.reflect.Field;
import java.lang.reflect.Method;
import java.lang.reflect.Modifier;
import java.nio.file.Files;
import java.nio.file.Path;
import java.util.Set;
import java.util.TreeSet;
import java.util.regex.Matcher;
import java.util.regex.Pattern;

/** The public face as the document has it, and LANGUAGE.md where a look at the text can tell. */
public final class FaceTest {
    private static final String[] CALLS = {
        "int type(long, int)", "int clear()", "int town()", "int person(int, int)", "int purse(int, int, int)",
        "int coins(int, int)", "int tune(int, int)", "int lot(int)", "int meet()", "int run(int)", "int met(int)",
        "long gain(int, int, int, int)", "int rests(int)", "int goes(int, int)", "int tip(int)", "int out(int, int)",
        "long clip(int, int)", "int year(int)", "long mean(int)", "int shabby(int)", "int changer(int, int, int)",
        "int law(int, int, int)", "int cheapest(int, int, int)", "int first(int, int)", "int seeds(int)",
        "int labour(int, int)", "int keep(int)", "int back(int)", "int count(int)", "long trace()"};

    public static void main(String[] args) throws IOException {
        calls();
        constants();
        nestedClasses();
        words();
        Check.finish();
    }

    private static void calls() {
        Check.holds("public and final", LightCoins.class.getModifiers() == (Modifier.PUBLIC | Modifier.FINAL));
        Set<String> want = new TreeSet<>(Set.of(CALLS));
        Set<String> got = new TreeSet<>();
        Set<String> names = new TreeSet<>();
        for (Method m : LightCoins.class.getDeclaredMethods()) {
            if (!Modifier.isPrivate(m.getModifiers()) && !m.isSynthetic()) {
                got.add(signature(m));
                names.add(m.getName());
                Check.holds(m + " is plainly public", m.getModifiers() == Modifier.PUBLIC);
            }
        }
        Check.holds("the calls are " + want + ", not " + got, want.equals(got));
        for (Method m : LightCoins.class.getDeclaredMethods()) {
            Check.holds(m + " bears a name of its own", !Modifier.isPrivate(m.getModifiers()) || !names.contains(m.getName()));
        }
        Constructor<?>[] constructors = LightCoins.class.getDeclaredConstructors();
        Check.holds("one public constructor", constructors.length == 1 && constructors[0].getModifiers() == Modifier.PUBLIC
            && constructors[0].getParameterCount() == 0);
    }

    private static String signature(Method m) {
        StringBuilder text = new StringBuilder(m.getReturnType().getName()).append(' ').append(m.getName()).append('(');
        for (int i = 0; i < m.getParameterCount(); i++) {
            text.append(i == 0 ? "" : ", ").append(m.getParameterTypes()[i].getName());
        }
        return text.append(')').toString();
    }

    private static void constants() {
        Set<String> open = new TreeSet<>();
        for (Field f : LightCoins.class.getDeclaredFields()) {
            if (!Modifier.isPrivate(f.getModifiers())) {
                open.add(f.getType() + " " + f.getName());
                Check.holds(f + " is a public constant", f.getModifiers() == (Modifier.PUBLIC | Modifier.STATIC | Modifier.FINAL));
            }
        }
        Check.holds("the constants", open.equals(Set.of("int BAD", "int STATE", "int FULL", "int NONE", "long NO")));
        Check.row("their values", new long[] {LightCoins.BAD, LightCoins.STATE, LightCoins.FULL, LightCoins.NONE, LightCoins.NO},
            -1, -2, -3, -9, -1000000000000000000L);
    }

    private static void nestedClasses() {
        Class<?>[] nested = LightCoins.class.getDeclaredClasses();
        Check.holds("some twelve classes at most", nested.length + 1 <= 12);
        for (Class<?> c : nested) {
            Check.holds(c + " is static", Modifier.isStatic(c.getModifiers()));
            Check.holds(c + " is not open", !Modifier.isPublic(c.getModifiers()) && !Modifier.isProtected(c.getModifiers()));
            Check.holds(c + " has few fields", instanceFields(c) <= 20);
        }
        Check.holds("few fields", instanceFields(LightCoins.class) <= 20);
    }

    private static int instanceFields(Class<?> c) {
        int fields = 0;
        for (Field f : c.getDeclaredFields()) {
            boolean constant = Modifier.isStatic(f.getModifiers());
            Check.holds(f + " static, so final", !constant || Modifier.isFinal(f.getModifiers()));
            fields += constant ? 0 : 1;
        }
        return fields;
    }

    /** .ci/run starts the tests in the project's own folder. */
    private static void words() throws IOException {
        String code = Files.readString(Path.of("src/main/java/LightCoins.java"));
        code = code.replaceAll("(?s)/\\*.*?\\*/", "").replaceAll("//[^\n]*", "");
        String banned = "\\b(throw|throws|try|catch|synchronized|assert|import|package|\\w+Exact|hashCode|toString|Object|var)\\b|->|::";
        Matcher found = Pattern.compile(banned).matcher(code);
        while (found.find()) {
            Check.holds("LANGUAGE.md has no " + found.group(), false);
        }
        Check.holds("the text was read", code.contains("public final class LightCoins"));
    }
}
