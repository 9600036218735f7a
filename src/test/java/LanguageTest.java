import java.lang.reflect.Field;
import java.lang.reflect.Method;
import java.lang.reflect.Modifier;
import java.nio.file.Files;
import java.nio.file.Path;
import java.util.ArrayList;
import java.util.List;
import java.util.Set;
import java.util.TreeSet;
import java.util.regex.Matcher;
import java.util.regex.Pattern;

/** What of ../shared/LANGUAGE.md can be seen by looking: the face against the document, forbidden words, sizes. */
public final class LanguageTest {
    private static int passed = 0, failed = 0;

    private static void must(boolean is, String what) {
        if (is) passed++;
        else {
            failed++;
            System.out.println("not so: " + what);
        }
    }

    public static void main(String[] args) throws Exception {
        String source = Files.readString(Path.of(args[0]));
        String document = Files.readString(Path.of(args[1]));
        String code = source.replaceAll("(?s)/\\*.*?\\*/", "").replaceAll("//[^\n]*", "");
        String bare = code.replaceAll("\"[^\"]*\"", "\"\"").replaceAll("'[^']*'", "' '");
        face(document);
        classes();
        words(bare);
        lengths(source);
        System.out.println(passed + " passed, " + failed + " failed");
        if (failed > 0) System.exit(1);
    }

    private static void face(String document) {
        Set<String> told = new TreeSet<>();
        Matcher m = Pattern.compile("    public int (\\w+)\\(([^)]*)\\);").matcher(document);
        while (m.find()) {
            List<String> types = new ArrayList<>();
            for (String one : m.group(2).split(",")) if (!one.isBlank()) types.add(one.trim().split(" ")[0]);
            told.add(m.group(1) + types);
        }
        Set<String> is = new TreeSet<>(), names = new TreeSet<>();
        for (Method method : ChalkWars.class.getDeclaredMethods()) {
            if (!Modifier.isPublic(method.getModifiers())) continue;
            List<String> types = new ArrayList<>();
            for (Class<?> type : method.getParameterTypes()) types.add(type.getName());
            must(method.getReturnType() == int.class, method + " answers an int");
            is.add(method.getName() + types);
            names.add(method.getName());
        }
        must(told.equals(is), "the face is " + told + ", the class has " + is);
        Set<String> fields = new TreeSet<>();
        for (Field f : ChalkWars.class.getDeclaredFields()) if (Modifier.isPublic(f.getModifiers())) fields.add(f.getName());
        must(fields.equals(Set.of("BAD", "FULL", "NONE", "STATE")), "public fields: " + fields);
        must(ChalkWars.class.getConstructors().length == 1, "one constructor");
        must(Modifier.isFinal(ChalkWars.class.getModifiers()), "final");
        List<Class<?>> all = new ArrayList<>(List.of(ChalkWars.class.getDeclaredClasses()));
        all.add(ChalkWars.class);
        for (Class<?> c : all) {
            for (Method method : c.getDeclaredMethods()) {
                boolean ofFace = c == ChalkWars.class && Modifier.isPublic(method.getModifiers());
                must(ofFace || !names.contains(method.getName()), method + " has another name than a public one");
            }
        }
    }

    private static void classes() {
        List<Class<?>> all = new ArrayList<>(List.of(ChalkWars.class.getDeclaredClasses()));
        must(all.size() <= 11, "twelve classes at most: " + (all.size() + 1));
        for (Class<?> c : all) must(Modifier.isStatic(c.getModifiers()), c + " is static");
        for (Method m : ChalkWars.class.getDeclaredMethods()) {
            must(Modifier.isPublic(m.getModifiers()) || Modifier.isPrivate(m.getModifiers()), m + " is public or private");
        }
        all.add(ChalkWars.class);
        for (Class<?> c : all) {
            int fields = 0;
            for (Field f : c.getDeclaredFields()) {
                int is = f.getModifiers();
                if (!Modifier.isStatic(is)) fields++;
                must(!Modifier.isStatic(is) || Modifier.isFinal(is), f + " is final");
                must(c != ChalkWars.class || Modifier.isPublic(is) || Modifier.isPrivate(is), f + " is public or private");
            }
            must(fields <= 20, c + " has twenty fields at most: " + fields);
            for (Method m : c.getDeclaredMethods()) must(m.getParameterCount() <= 7, m + " takes seven at most");
        }
    }

    private static void words(String bare) {
        String[] none = {"throw", "throws", "try", "catch", "finally", "synchronized", "assert", "import", "package", "instanceof",
            "protected", "volatile", "transient", "native", "equals", "hashCode", "toString", "Object", "var", "long\\[\\]\\[\\]\\[\\]"};
        for (String word : none) must(!Pattern.compile("\\b" + word + "\\b").matcher(bare).find(), "no " + word);
        for (String sign : new String[] {"->", "::", "@", "String[]", "+ \"", "\" +"}) must(!bare.contains(sign), "no " + sign);
        Set<String> allowed = Set.of("Integer.bitCount", "Math.max", "Math.min", "System.arraycopy");
        Matcher m = Pattern.compile("\\b(Integer|Long|Math|System|Arrays|String|Character|List|ArrayList)\\.(\\w+)").matcher(bare);
        while (m.find()) must(allowed.contains(m.group()), "in the list: " + m.group());
        must(bare.chars().allMatch(c -> c == '\n' || c >= 32 && c < 127), "plain signs alone");
    }

    private static void lengths(String source) {
        String[] lines = source.split("\n");
        int begin = -1;
        String indent = "";
        for (int i = 0; i < lines.length; i++) {
            must(lines[i].length() <= 130, "line " + (i + 1) + " is not too long");
            Matcher m = Pattern.compile("^( +)(?!.*class )[\\w\\[\\]. ]+\\([^;]*\\) \\{$").matcher(lines[i]);
            boolean begins = m.find() && (m.group(1).length() == 4 || m.group(1).length() == 8)
                && !lines[i].trim().matches("(if|for|while|switch|else).*");
            if (begins) {
                begin = i;
                indent = m.group(1);
            } else if (begin >= 0 && lines[i].equals(indent + "}")) {
                must(i - begin < 60, "the method of line " + (begin + 1) + " is short");
                begin = -1;
            }
        }
    }
}
