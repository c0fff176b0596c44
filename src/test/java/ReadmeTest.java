import java.io.IOException;
import java.lang.reflect.Field;
import java.lang.reflect.Method;
import java.lang.reflect.Modifier;
import java.nio.file.Files;
import java.nio.file.Path;
import java.util.regex.Matcher;
import java.util.regex.Pattern;

/** What README.md says of the class: its run of calls, and the names of all calls and answers. */
public final class ReadmeTest {
    private static final Pattern MAKE = Pattern.compile("SessionTables x = new SessionTables\\((\\d+)\\);.*");
    private static final Pattern CALL = Pattern.compile("x\\.(\\w+)\\(((?:\\d+|true|false|, )*)\\); +// ([^:]+): .*");

    private static int wrong = 0;
    private static int calls = 0;

    public static void main(String[] args) throws IOException, ReflectiveOperationException {
        String page = Files.readString(Path.of("README.md"));
        run(page);
        namesEveryCall(page);
        namesEveryAnswer(page);
        if (calls == 0) {
            say("the page has no run of calls");
        }
        System.out.println(wrong == 0 ? calls + " calls answer what the page says" : wrong + " things are not as the page says");
        if (wrong != 0) {
            System.exit(1);
        }
    }

    private static void say(String what) {
        wrong++;
        System.out.println(what);
    }

    private static void run(String page) throws ReflectiveOperationException {
        SessionTables x = null;
        boolean isCode = false;
        for (String line : page.split("\n")) {
            if (line.startsWith("```")) {
                isCode = line.equals("```java");
            } else if (isCode) {
                Matcher made = MAKE.matcher(line);
                if (made.matches()) {
                    x = new SessionTables(Integer.parseInt(made.group(1)));
                } else {
                    call(x, line);
                }
            }
        }
    }

    private static void call(SessionTables x, String line) throws ReflectiveOperationException {
        Matcher told = CALL.matcher(line);
        if (x == null || !told.matches()) {
            say("no call with its answer: " + line);
            return;
        }
        Method method = method(told.group(1));
        if (method == null) {
            say("no such call: " + line);
            return;
        }
        String got = String.valueOf(method.invoke(x, arguments(told.group(2))));
        calls++;
        if (!got.equals(told.group(3))) {
            say("answered " + got + ": " + line);
        }
    }

    private static Method method(String name) {
        for (Method method : SessionTables.class.getDeclaredMethods()) {
            if (Modifier.isPublic(method.getModifiers()) && method.getName().equals(name)) {
                return method;
            }
        }
        return null;
    }

    private static Object[] arguments(String text) {
        if (text.isEmpty()) {
            return new Object[0];
        }
        String[] parts = text.split(", ");
        Object[] made = new Object[parts.length];
        for (int i = 0; i < parts.length; i++) {
            boolean isTruth = parts[i].equals("true") || parts[i].equals("false");
            made[i] = isTruth ? (Object) Boolean.valueOf(parts[i]) : (Object) Integer.valueOf(parts[i]);
        }
        return made;
    }

    private static void namesEveryCall(String page) {
        for (Method method : SessionTables.class.getDeclaredMethods()) {
            boolean isOpen = Modifier.isPublic(method.getModifiers());
            if (isOpen && !page.contains("`" + method.getName() + "(")) {
                say("the page does not name " + method.getName());
            }
        }
    }

    private static void namesEveryAnswer(String page) throws IllegalAccessException {
        for (Field field : SessionTables.class.getDeclaredFields()) {
            boolean isOpen = Modifier.isPublic(field.getModifiers());
            if (isOpen && !page.contains("| `" + field.getName() + "` | " + field.getInt(null) + " |")) {
                say("the page does not say what " + field.getName() + " is");
            }
        }
    }
}
