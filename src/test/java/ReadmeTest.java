import java.lang.reflect.Method;
import java.lang.reflect.Modifier;
import java.nio.file.Files;
import java.nio.file.Path;
import java.util.Set;
import java.util.TreeSet;
import java.util.regex.Matcher;
import java.util.regex.Pattern;

/** README.md: its calls, made one behind the other on one object, answer as it tells; it names every test that .ci/run runs. */
public final class ReadmeTest {
    private static int passed = 0, failed = 0;

    private static void must(boolean is, String what) {
        if (is) passed++;
        else {
            failed++;
            System.out.println("not so: " + what);
        }
    }

    public static void main(String[] args) throws Exception {
        String page = Files.readString(Path.of(args[0]));
        String script = Files.readString(Path.of(args[1]));
        example(page);
        tests(page, script);
        System.out.println(passed + " passed, " + failed + " failed");
        if (failed > 0) System.exit(1);
    }

    private static void example(String page) throws Exception {
        int from = page.indexOf("```java\n");
        int to = page.indexOf("```\n", from + 1);
        must(from >= 0 && to > from, "an example stands in README.md");
        if (from < 0 || to < from) return;
        ChalkWars city = new ChalkWars();
        int calls = 0;
        for (String line : page.substring(from, to).split("\n")) {
            if (!line.startsWith("city.")) continue;
            Matcher m = Pattern.compile("^city\\.(\\w+)\\(([^)]*)\\); +// (-?\\d+): .+$").matcher(line);
            boolean told = m.find();
            must(told, "the answer is told: " + line);
            if (!told) continue;
            calls++;
            int got = answer(city, m.group(1), m.group(2));
            must(got == Integer.parseInt(m.group(3)), line + " answered " + got);
        }
        must(calls > 0, "the example makes calls");
    }

    private static int answer(ChalkWars city, String name, String given) throws Exception {
        String[] told = given.isBlank() ? new String[0] : given.split(", *");
        for (Method method : ChalkWars.class.getDeclaredMethods()) {
            if (!Modifier.isPublic(method.getModifiers()) || !method.getName().equals(name)) continue;
            if (method.getParameterCount() != told.length) continue;
            Object[] all = new Object[told.length];
            for (int i = 0; i < told.length; i++) {
                long v = Long.decode(told[i].replaceAll("[_L]", ""));
                if (method.getParameterTypes()[i] == long.class) all[i] = v;
                else all[i] = (int) v;
            }
            return (Integer) method.invoke(city, all);
        }
        throw new IllegalStateException("README.md calls " + name + "(" + given + "), which is not there");
    }

    private static void tests(String page, String script) {
        Set<String> run = names(script.replaceAll("(?m)^#.*", ""));
        must(!run.isEmpty(), ".ci/run runs tests");
        must(names(page).equals(run), "README.md names " + names(page) + ", .ci/run runs " + run);
    }

    private static Set<String> names(String text) {
        Set<String> all = new TreeSet<>();
        Matcher m = Pattern.compile("\\b[A-Z]\\w*Tests?\\b").matcher(text);
        while (m.find()) all.add(m.group());
        return all;
    }
}
