import java.io.IOException;
import java.lang.reflect.Field;
import java.lang.reflect.Method;
import java.lang.reflect.Modifier;
import java.nio.file.Files;
import java.nio.file.Path;
import java.util.regex.Matcher;
import java.util.regex.Pattern;

/** README.md: its example answers what it says there, and it tells of every call and constant. */
public final class ReadmeTest {
    private static final Pattern EXAMPLE = Pattern.compile("game\\.(\\w+)\\((.*?)\\);\\s+// (-?\\d+):.*");

    public static void main(String[] args) throws IOException, ReflectiveOperationException {
        String readme = Files.readString(Path.of(System.getProperty("project", "."), "README.md"));
        example(readme);
        tables(readme);
        Due.end();
    }

    private static void example(String readme) throws ReflectiveOperationException {
        FiveShogi game = new FiveShogi();
        int calls = 0;
        for (String line : readme.split("\n")) {
            Matcher call = EXAMPLE.matcher(line.trim());
            if (call.matches()) {
                calls++;
                Due.due(line.trim(), answer(game, call.group(1), call.group(2)), Integer.parseInt(call.group(3)));
            } else {
                Due.due("no answer is told: " + line, line.contains(" game.") ? 1 : 0, 0);
            }
        }
        Due.due("an example of ten calls or more", calls >= 10 ? 1 : 0, 1);
    }

    private static int answer(FiveShogi game, String name, String list) throws ReflectiveOperationException {
        String[] words = list.isEmpty() ? new String[0] : list.split(", ");
        for (Method method : FiveShogi.class.getMethods()) {
            if (method.getName().equals(name) && method.getParameterCount() == words.length) {
                Object[] arguments = new Object[words.length];
                for (int i = 0; i < words.length; i++) {
                    arguments[i] = argument(method.getParameterTypes()[i], words[i]);
                }
                return (int) method.invoke(game, arguments);
            }
        }
        throw new IllegalArgumentException("no such call: " + name + "(" + list + ")");
    }

    private static Object argument(Class<?> type, String word) {
        if (type == boolean.class) {
            return Boolean.valueOf(word);
        }
        return type == char.class ? (Object) word.charAt(1) : (Object) Integer.valueOf(word);
    }

    /** A row for each call with its number of arguments, and for each constant with its number. */
    private static void tables(String readme) throws IllegalAccessException {
        for (Method method : FiveShogi.class.getDeclaredMethods()) {
            if (Modifier.isPublic(method.getModifiers())) {
                String arguments = "\\w+, ".repeat(method.getParameterCount()).replaceAll(", $", "");
                isTold(readme, "\n\\| `" + method.getName() + "\\(" + arguments + "\\)` \\| [^|]+ \\|");
            }
        }
        for (Field field : FiveShogi.class.getFields()) {
            isTold(readme, "\n\\| `" + field.getName() + "` \\| " + field.getInt(null) + " \\|");
        }
    }

    private static void isTold(String readme, String row) {
        Due.due("README.md has the row " + row, Pattern.compile(row).matcher(readme).find() ? 1 : 0, 1);
    }
}
