import java.io.IOException;
import java.lang.reflect.Constructor;
import java.lang.reflect.Field;
import java.lang.reflect.Method;
import java.lang.reflect.Modifier;
import java.nio.charset.StandardCharsets;
import java.nio.file.Files;
import java.nio.file.Path;
import java.util.ArrayList;
import java.util.Arrays;
import java.util.List;
import java.util.TreeSet;
import java.util.regex.Matcher;
import java.util.regex.Pattern;

/** What can be seen of the rules of LANGUAGE.md in the class and in its text; run in the project's folder. */
public final class RulesTest {
    private static final Due due = new Due();

    private static final String[] FACE = {
        "boolean set(int, int)", "boolean tell(int, int, int, int)", "boolean price(int, int)",
        "int trade(int, int, int, int, int)", "int apart(int, int, int, int, int)",
        "boolean dividend(int, int)", "boolean move(int, int, int, int)", "boolean split(int, int)",
        "boolean suspend(int, boolean)", "boolean collateral(int, int)", "int night(int)",
        "int give(int, int, int)", "int call(int)", "int feed(int, int, int, int, int)", "boolean end(int)",
        "int plan()", "int fault(int)", "int run(int)", "int at(int, int, int)", "int lot(int, int, int, int)",
        "long cash(int)", "int deal(int, int)", "int notice(int, int)", "int issue(int, int)",
        "int book(int, int)", "long margin(int, int)", "int stress(int)", "int queue(int, int, int)",
        "int aged(int, int)", "int statement(int, int, boolean)", "int tomorrow(int, int, int)",
        "int ahead(int, int)", "int reached(int, int)", "boolean image(boolean)", "int look(int)",
    };

    public static void main(String[] args) throws IOException {
        face();
        insides();
        byte[] bytes = Files.readAllBytes(Path.of("src/main/java/RollingNets.java"));
        signs(bytes);
        String text = new String(bytes, StandardCharsets.ISO_8859_1);
        words(text.replaceAll("(?s)/\\*.*?\\*/", "").replaceAll("//.*", ""));
        methodLengths(text.split("\n"));
        due.end();
    }

    private static String told(Method method) {
        List<String> types = new ArrayList<>();
        for (Class<?> type : method.getParameterTypes()) {
            types.add(type.getSimpleName());
        }
        return method.getReturnType().getSimpleName() + " " + method.getName() + "(" + String.join(", ", types) + ")";
    }

    /** Rule 1. */
    private static void face() {
        Class<?> all = RollingNets.class;
        due.is("public final", Modifier.isPublic(all.getModifiers()) && Modifier.isFinal(all.getModifiers()), true);
        TreeSet<String> open = new TreeSet<>();
        TreeSet<String> names = new TreeSet<>();
        for (Method method : all.getDeclaredMethods()) {
            if (!Modifier.isPrivate(method.getModifiers())) {
                due.is("public and no more: " + method, method.getModifiers(), Modifier.PUBLIC);
                open.add(told(method));
                names.add(method.getName());
            }
        }
        due.is("the face: " + open, open.equals(new TreeSet<>(Arrays.asList(FACE))), true);
        for (Method method : all.getDeclaredMethods()) {
            boolean hides = Modifier.isPrivate(method.getModifiers()) && names.contains(method.getName());
            due.is("a name of its own: " + method, hides, false);
        }
        for (Field field : all.getDeclaredFields()) {
            boolean isNone = field.getName().equals("NONE") && Modifier.isPublic(field.getModifiers());
            due.is("private: " + field, isNone || Modifier.isPrivate(field.getModifiers()), true);
        }
        Constructor<?>[] made = all.getDeclaredConstructors();
        due.is("one constructor", made.length == 1 && made[0].getParameterCount() == 0, true);
        due.is("public", Modifier.isPublic(made[0].getModifiers()), true);
        due.is("NONE", RollingNets.NONE, -1);
    }

    /** Rules 2, 5 and 11. */
    private static void insides() {
        List<Class<?>> classes = new ArrayList<>(Arrays.asList(RollingNets.class.getDeclaredClasses()));
        for (Class<?> inside : classes) {
            due.is("static: " + inside, Modifier.isStatic(inside.getModifiers()), true);
            boolean isShut = !Modifier.isPublic(inside.getModifiers()) && !Modifier.isProtected(inside.getModifiers());
            due.is("not public: " + inside, isShut, true);
            due.is("none inside it: " + inside, inside.getDeclaredClasses().length, 0);
        }
        classes.add(RollingNets.class);
        due.is("at most twelve classes", classes.size() <= 12, true);
        for (Class<?> one : classes) {
            int fields = 0;
            for (Field field : one.getDeclaredFields()) {
                if (Modifier.isStatic(field.getModifiers())) {
                    due.is("final: " + field, Modifier.isFinal(field.getModifiers()), true);
                } else {
                    fields++;
                }
            }
            due.is("at most twenty fields: " + one, fields <= 20, true);
            for (Method method : one.getDeclaredMethods()) {
                due.is("at most seven: " + method, method.getParameterCount() <= 7, true);
            }
        }
    }

    /** Rules 3 and 4: signs 1 to 127 in the text. */
    private static void signs(byte[] bytes) {
        int odd = 0;
        for (byte sign : bytes) {
            odd += sign < 1 ? 1 : 0;
        }
        due.is("signs beyond 127", odd, 0);
    }

    /** Rules 4, 6 and 13. */
    private static void words(String code) {
        String[] none = {
            "\\bthrows?\\b", "\\btry\\b", "\\bcatch\\b", "\\bsynchronized\\b", "\\bassert\\b", "->", "::",
            "\\bimport\\b", "\\bpackage\\b", "\\bequals\\b", "\\bhashCode\\b", "\\btoString\\b", "\\bstatic\\s*\\{",
            "\\bThread\\b", "\\bRandom\\b", "\\bnanoTime\\b", "\\bcurrentTimeMillis\\b", "Exact\\b", "\\bnull\\b",
            "\\bvar\\b", "@", "\\bList\\b", "\\bArrays\\b", "\\bprotected\\b", "\" *\\+", "\\+ *\"",
        };
        for (String word : none) {
            Matcher in = Pattern.compile(word).matcher(code);
            due.is("not in the program: " + word, in.find(), false);
        }
        Matcher call = Pattern.compile("\\b(System|Math|String|Integer|Long)\\.(\\w+)").matcher(code);
        while (call.find()) {
            boolean can = Arrays.asList("System.arraycopy", "Math.max", "Math.min", "Math.abs").contains(call.group());
            due.is("in the library: " + call.group(), can, true);
        }
    }

    /** Rule 11: some sixty lines. */
    private static void methodLengths(String[] lines) {
        int start = -1;
        Pattern head = Pattern.compile("^(    |        )(public |private |static )*[\\w\\[\\]]+ ?\\w*\\(.*\\) \\{$");
        String indent = "";
        for (int k = 0; k < lines.length; k++) {
            Matcher in = head.matcher(lines[k]);
            if (start < 0 && in.find()) {
                start = k;
                indent = in.group(1);
            } else if (start >= 0 && lines[k].equals(indent + "}")) {
                due.is("at most sixty lines: " + lines[start].trim(), k - start + 1 <= 60, true);
                start = -1;
            }
        }
        due.is("every method has an end", start, -1);
    }
}
