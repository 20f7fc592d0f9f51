import java.io.IOException;
import java.lang.reflect.InvocationTargetException;
import java.lang.reflect.Method;
import java.lang.reflect.Modifier;
import java.nio.file.Files;
import java.nio.file.Path;
import java.util.ArrayList;
import java.util.List;
import java.util.regex.Matcher;
import java.util.regex.Pattern;
import java.util.stream.Stream;

/**
 * README.md tells the truth: each call of its examples answers the number or the boolean that stands behind it, and
 * every call of the face and every test is on the page; run in the project's folder.
 */
public final class ReadmeTest {
    private static final Due due = new Due();
    private static final Pattern MADE = Pattern.compile("^RollingNets house = new RollingNets\\(\\);(\\s*//.*)?$");
    private static final Pattern CALLED =
            Pattern.compile("^house\\.(\\w+)\\((.*?)\\);\\s*// (-?[0-9]+|true|false)(: .*)?$");

    public static void main(String[] args) throws IOException, IllegalAccessException, InvocationTargetException {
        String page = Files.readString(Path.of("README.md"));
        List<String> lines = examples(page);
        due.is("examples", lines.size() > 30, true);
        RollingNets house = null;
        for (String line : lines) {
            if (MADE.matcher(line).matches()) {
                house = new RollingNets();
                continue;
            }
            Matcher called = CALLED.matcher(line);
            boolean isCall = called.matches() && house != null;
            due.is("a call with its answer: " + line, isCall, true);
            if (isCall) {
                due.is(line, answer(house, called.group(1), called.group(2)), number(called.group(3)));
            }
        }
        calls(page);
        tests(page);
        due.end();
    }

    private static List<String> examples(String page) {
        List<String> all = new ArrayList<>();
        boolean isExample = false;
        for (String line : page.split("\n")) {
            if (line.startsWith("```")) {
                isExample = line.equals("```java");
            } else if (isExample) {
                all.add(line);
            }
        }
        return all;
    }

    private static long number(String told) {
        if (told.equals("true") || told.equals("false")) {
            return told.equals("true") ? 1 : 0;
        }
        return Long.decode(told);
    }

    private static Method method(String name) {
        for (Method method : RollingNets.class.getDeclaredMethods()) {
            if (Modifier.isPublic(method.getModifiers()) && method.getName().equals(name)) {
                return method;
            }
        }
        throw new IllegalStateException("README.md calls " + name + ", and there is none");
    }

    private static long answer(RollingNets house, String name, String arguments)
            throws IllegalAccessException, InvocationTargetException {
        String[] told = arguments.isEmpty() ? new String[0] : arguments.split(", ");
        Method method = method(name);
        Object[] given = new Object[told.length];
        for (int k = 0; k < told.length; k++) {
            boolean isTruth = told[k].equals("true") || told[k].equals("false");
            given[k] = isTruth ? (Object) (number(told[k]) == 1) : (Object) (int) number(told[k]);
        }
        Object got = method.invoke(house, given);
        return number(got.toString());
    }

    private static void calls(String page) {
        String table = page.substring(page.indexOf("### Its calls"), page.indexOf("### Plans"));
        for (Method method : RollingNets.class.getDeclaredMethods()) {
            if (Modifier.isPublic(method.getModifiers())) {
                String name = "`" + method.getName() + "`";
                due.is("among its calls: " + name, table.indexOf(name) >= 0, true);
                due.is("once: " + name, table.indexOf(name), table.lastIndexOf(name));
            }
        }
    }

    private static void tests(String page) throws IOException {
        String table = page.substring(page.indexOf("## Its tests"));
        due.is("how to run them", table.contains(".ci/run"), true);
        try (Stream<Path> files = Files.list(Path.of("src/test/java"))) {
            for (Path file : (Iterable<Path>) files.sorted()::iterator) {
                String name = file.getFileName().toString().replace(".java", "");
                // `Section1Test` .. `Section5Test` stand in one row.
                boolean isSection = name.matches("Section[2-4]Test");
                due.is("among its tests: " + name, isSection || table.contains("`" + name + "`"), true);
            }
        }
        Matcher row = Pattern.compile("\\| `(\\w+)`").matcher(table);
        while (row.find()) {
            Path file = Path.of("src/test/java", row.group(1) + ".java");
            due.is("there is a test " + row.group(1), Files.exists(file), true);
        }
    }
}
