import java.io.IOException;
import java.lang.reflect.Field;
import java.lang.reflect.Method;
import java.lang.reflect.Modifier;
import java.nio.file.Files;
import java.nio.file.Path;
import java.util.regex.Matcher;
import java.util.regex.Pattern;

/** README.md tells of all that the class has, and its example answers what stands behind each call. */
final class ReadmeTest {
    private static final Pattern CALL = Pattern.compile("link\\.(\\w+)\\((.*)\\);\\s+// ([-\\w]+)(:.*)?");
    private static final Pattern NEW = Pattern.compile("RadioPair link = new RadioPair\\((\\d+)\\);.*");
    private static final Check CHECK = new Check("README.md");

    private ReadmeTest() {
    }

    public static void main(String[] args) throws IOException, ReflectiveOperationException {
        String text = Files.readString(Path.of("README.md"));
        playExample(text);
        allIsTold(text);
        CHECK.end();
    }

    private static void playExample(String text) throws ReflectiveOperationException {
        RadioPair link = null;
        int start = text.indexOf("```java\n") + "```java\n".length();
        for (String line : text.substring(start, text.indexOf("```\n", start)).split("\n+")) {
            Matcher made = NEW.matcher(line);
            Matcher call = CALL.matcher(line);
            if (made.matches()) {
                link = new RadioPair(Integer.parseInt(made.group(1)));
            } else if (link != null && call.matches()) {
                CHECK.due(line, answer(link, call.group(1), call.group(2)), number(call.group(3)));
            } else {
                CHECK.same("a line of the example", line, "a call with its answer");
            }
        }
    }

    private static int answer(RadioPair link, String name, String list) throws ReflectiveOperationException {
        String[] words = list.isEmpty() ? new String[0] : list.split(", ");
        Object[] values = new Object[words.length];
        for (int k = 0; k < words.length; k++) {
            boolean truth = words[k].equals("true") || words[k].equals("false");
            values[k] = truth ? (Object) Boolean.valueOf(words[k]) : (Object) Integer.valueOf(words[k]);
        }
        for (Method method : RadioPair.class.getMethods()) {
            if (method.getName().equals(name) && method.getDeclaringClass() == RadioPair.class) {
                return (Integer) method.invoke(link, values);
            }
        }
        throw new NoSuchMethodException(name);
    }

    private static int number(String answer) throws ReflectiveOperationException {
        return answer.matches("-?\\d+") ? Integer.parseInt(answer) : RadioPair.class.getField(answer).getInt(null);
    }

    private static void allIsTold(String text) {
        for (Method method : RadioPair.class.getDeclaredMethods()) {
            if (Modifier.isPublic(method.getModifiers())) {
                told(text, "| `" + method.getName() + "(");
            }
        }
        for (Field field : RadioPair.class.getDeclaredFields()) {
            if (Modifier.isPublic(field.getModifiers())) {
                told(text, "`" + field.getName() + "`");
            }
        }
        for (int what = 0; what < 10; what++) {
            told(text, "\n| " + what + " | ");
        }
        told(text, "    .ci/run\n");
    }

    private static void told(String text, String words) {
        CHECK.due("whether README.md has " + words.strip(), text.contains(words) ? 1 : 0, 1);
    }
}
