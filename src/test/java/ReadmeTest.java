import java.io.File;
import java.io.IOException;
import java.lang.reflect.InvocationTargetException;
import java.lang.reflect.Method;
import java.lang.reflect.Modifier;
import java.nio.file.Files;
import java.nio.file.Path;
import java.util.regex.Matcher;
import java.util.regex.Pattern;

/** What README.md shows is what the class answers, and it leaves no call and no test out. */
public final class ReadmeTest {
    private static final Pattern CALL =
            Pattern.compile("x\\.(\\w+)\\((.*?)\\); +// (?:street )?(-?\\d+|throws\\.\\w+).*");
    private static final Pattern TEXT =
            Pattern.compile("for \\(char c : \"(.*)\"\\.toCharArray\\(\\)\\) \\{ x\\.append\\(c\\); \\}");

    private static int shown = 0;

    public static void main(String[] args) throws IOException {
        String readme = Files.readString(Path.of("README.md"));
        ClosedStreets x = null;
        boolean code = false;
        for (String line : readme.split("\n")) {
            if (line.startsWith("```")) {
                code = line.equals("```java");
            } else if (code && line.startsWith("ClosedStreets x = new ClosedStreets();")) {
                x = new ClosedStreets();
            } else if (code) {
                shown(x, line);
            }
        }
        Due.row("README.md shows calls", shown > 0, true);
        names(readme);
        Due.end();
    }

    private static void shown(ClosedStreets x, String line) {
        Matcher text = TEXT.matcher(line);
        Matcher call = CALL.matcher(line);
        if (text.matches()) {
            for (char c : text.group(1).toCharArray()) {
                x.append(c);
            }
        } else if (call.matches()) {
            shown++;
            String got = answer(x, call.group(1), call.group(2));
            Due.row("README.md shows " + line, got, call.group(3));
        } else {
            Due.row("README.md shows a line that is no call", line, "");
        }
    }

    private static String answer(ClosedStreets x, String name, String list) {
        String[] told = list.isEmpty() ? new String[0] : list.split(", ");
        for (Method method : ClosedStreets.class.getMethods()) {
            if (method.getName().equals(name) && method.getParameterCount() == told.length) {
                return answer(x, method, told);
            }
        }
        return "no such call";
    }

    private static String answer(ClosedStreets x, Method method, String[] told) {
        Object[] arguments = new Object[told.length];
        for (int i = 0; i < told.length; i++) {
            arguments[i] = argument(method.getParameterTypes()[i], told[i]);
        }
        try {
            return String.valueOf(method.invoke(x, arguments));
        } catch (InvocationTargetException e) {
            return "throws." + e.getCause().getClass().getSimpleName();
        } catch (IllegalAccessException e) {
            return e.toString();
        }
    }

    private static Object argument(Class<?> type, String told) {
        if (type == boolean.class) {
            return Boolean.valueOf(told);
        }
        return type == long.class ? (Object) Long.valueOf(told.replace("L", ""))
                : (Object) Integer.valueOf(told);
    }

    private static void names(String readme) {
        for (Method method : ClosedStreets.class.getDeclaredMethods()) {
            if (Modifier.isPublic(method.getModifiers())) {
                named(readme, method.getName());
            }
        }
        for (String file : new File("src/test/java").list()) {
            if (file.endsWith("Test.java")) {
                named(readme, file.replace(".java", ""));
            }
        }
    }

    private static void named(String readme, String name) {
        Due.row("README.md names " + name, readme.contains("`" + name + "`"), true);
    }
}
