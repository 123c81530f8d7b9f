import java.io.File;
import java.io.IOException;
import java.lang.reflect.InvocationTargetException;
import java.lang.reflect.Method;
import java.lang.reflect.Modifier;
import java.nio.file.Files;
import java.nio.file.Path;
import java.util.Set;
import java.util.TreeSet;
import java.util.regex.Matcher;
import java.util.regex.Pattern;

/** What README.md says of the class and of the tests holds. It is run in the project's directory. */
public final class ReadmeTest {
    private static final String CALL_START = "order.";
    private static final Pattern CALL =
            Pattern.compile("order\\.(\\w+)\\(([-\\d, ]*)\\); +// ([^:]+)(: .*)?");
    private static final Pattern TEST_NAME = Pattern.compile("`(\\w+Test)`");

    public static void main(String[] args) throws IOException {
        String text = Files.readString(Path.of("README.md"));
        callsAnswerWhatIsWritten(text);
        tableNamesTheFace(text);
        testsAreNamed(text);
        Check.end();
    }

    private static void callsAnswerWhatIsWritten(String text) {
        HangOrder order = new HangOrder();
        Set<String> called = new TreeSet<>();
        for (String line : text.split("\n")) {
            if (line.startsWith(CALL_START)) {
                Matcher call = CALL.matcher(line);
                expect(line + " can be read", call.matches());
                if (call.matches()) {
                    called.add(call.group(1));
                    String got = answer(order, call.group(1), call.group(2));
                    expect(line + " (answered " + got + ")", got.equals(call.group(3)));
                }
            }
        }
        for (Method method : HangOrder.class.getDeclaredMethods()) {
            if (Modifier.isPublic(method.getModifiers())) {
                expect(method.getName() + " is called", called.contains(method.getName()));
            }
        }
    }

    private static String answer(HangOrder order, String name, String arguments) {
        String[] words = arguments.isEmpty() ? new String[0] : arguments.split(", *");
        Class<?>[] types = new Class<?>[words.length];
        Object[] values = new Object[words.length];
        for (int k = 0; k < words.length; k++) {
            types[k] = int.class;
            values[k] = Integer.valueOf(words[k]);
        }
        try {
            Object got = HangOrder.class.getMethod(name, types).invoke(order, values);
            return got == null ? "nothing" : got.toString();
        } catch (InvocationTargetException e) {
            return "throws " + e.getCause().getClass().getSimpleName();
        } catch (ReflectiveOperationException e) {
            return "there is no such call";
        }
    }

    /** Of each method the table has its answer's type, its name and its parameters' types. */
    private static void tableNamesTheFace(String text) {
        expect("the table names the constructor", text.contains("| `HangOrder()` |"));
        expect("the table names NONE", text.contains("| `int NONE` | " + HangOrder.NONE + ":"));
        for (Method method : HangOrder.class.getDeclaredMethods()) {
            if (Modifier.isPublic(method.getModifiers())) {
                String due = "| `" + method.getReturnType() + " " + method.getName() + "(";
                expect("the table names " + method.getName(), hasRow(text, due, method));
            }
        }
    }

    private static boolean hasRow(String text, String start, Method method) {
        int at = text.indexOf(start);
        int end = text.indexOf(")", at + start.length());
        if (at < 0 || end < 0) {
            return false;
        }
        String parameters = text.substring(at + start.length(), end);
        int count = parameters.isEmpty() ? 0 : parameters.split(", ").length;
        return count == method.getParameterCount();
    }

    private static void testsAreNamed(String text) {
        Set<String> named = new TreeSet<>();
        Matcher name = TEST_NAME.matcher(text);
        while (name.find()) {
            named.add(name.group(1));
        }
        Set<String> there = new TreeSet<>();
        String[] files = new File("src/test/java").list();
        for (String file : files == null ? new String[0] : files) {
            if (file.endsWith("Test.java")) {
                there.add(file.substring(0, file.length() - ".java".length()));
            }
        }
        expect("the tests named are " + named + ", there are " + there, named.equals(there));
    }

    private static void expect(String what, boolean holds) {
        Check.same("README.md: " + what, holds, true);
    }
}
