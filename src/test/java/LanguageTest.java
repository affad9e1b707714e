import java.io.IOException;
import java.nio.file.Files;
import java.nio.file.Path;
import java.util.List;
import java.util.Set;
import java.util.TreeSet;
import java.util.regex.Matcher;
import java.util.regex.Pattern;

/** Rules of LANGUAGE.md that show in the source: words that are ruled out, the library, sizes, where objects are made. */
final class LanguageTest {
    private static final String RULED_OUT =
        "import|package|throw|throws|try|catch|finally|synchronized|assert|protected|native|volatile|transient";
    private static final Set<String> LIBRARY = Set.of("Math.max", "Math.min", "System.arraycopy");
    private static final Pattern METHOD =
        Pattern.compile("( {4}| {8})(?:[A-Za-z]+(?:\\[\\])* )*(\\w+)\\(([^)]*)\\) \\{");
    private static final Check CHECK = new Check("LANGUAGE.md");

    private LanguageTest() {
    }

    public static void main(String[] args) throws IOException {
        String source = Files.readString(Path.of("src", "main", "java", "RadioPair.java"));
        String code = source.replaceAll("(?s)/\\*.*?\\*/", "").replaceAll("//[^\n]*", "");
        ruledOut(code);
        library(code);
        methods(code);
        CHECK.end();
    }

    private static void ruledOut(String code) {
        CHECK.same("rules 1, 4 and 6, words ruled out", found(code, "\\b(" + RULED_OUT + ")\\b"), Set.of());
        CHECK.same("rule 2, lambdas and method references", found(code, "->|::"), Set.of());
        CHECK.same("rule 5, static blocks", found(code, "\\bstatic\\s*\\{"), Set.of());
        CHECK.same("rule 9, loops without an end",
            found(code, "while\\s*\\(true\\)|for\\s*\\(;"), Set.of());
    }

    private static void library(String code) {
        Set<String> used = found(code, "\\b[A-Z][a-z]\\w*\\.\\w+");
        used.removeAll(LIBRARY);
        CHECK.same("rule 4, what is used of the library beside " + LIBRARY, used, Set.of());
    }

    private static Set<String> found(String code, String pattern) {
        Set<String> all = new TreeSet<>();
        Matcher matcher = Pattern.compile(pattern).matcher(code);
        while (matcher.find()) {
            all.add(matcher.group());
        }
        return all;
    }

    /** Rule 11; and README's word that no call makes an object, for the room that all calls live in. */
    private static void methods(String code) {
        List<String> lines = List.of(code.split("\n"));
        int seen = 0;
        for (int k = 0; k < lines.size(); k++) {
            Matcher head = METHOD.matcher(lines.get(k));
            if (head.matches()) {
                List<String> rest = lines.subList(k, lines.size());
                int end = rest.indexOf(head.group(1) + "}");
                String name = head.group(2);
                boolean constructor = Character.isUpperCase(name.charAt(0));
                boolean makes = String.join(" ", rest.subList(0, end + 1)).contains(" new ");
                CHECK.due("whether " + name + " is short", end > 0 && end < 60 ? 1 : 0, 1);
                CHECK.due("whether " + name + " has few parameters", head.group(3).split(",").length <= 7 ? 1 : 0, 1);
                CHECK.due("whether the method " + name + " makes objects", makes && !constructor ? 1 : 0, 0);
                seen += constructor ? 0 : 1;
            }
        }
        CHECK.due("how many methods were looked at", seen, declaredMethods());
    }

    private static int declaredMethods() {
        int all = RadioPair.class.getDeclaredMethods().length;
        for (Class<?> inner : RadioPair.class.getDeclaredClasses()) {
            all += inner.getDeclaredMethods().length;
        }
        return all;
    }
}
