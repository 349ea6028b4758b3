import java.io.IOException;
import java.lang.reflect.Method;
import java.nio.charset.StandardCharsets;
import java.nio.file.DirectoryStream;
import java.nio.file.Files;
import java.nio.file.Path;
import java.util.Set;
import java.util.TreeSet;
import java.util.regex.Matcher;
import java.util.regex.Pattern;

/** What README.md says of the class holds: its examples are run line by line. Run from the project's root. */
final class ReadmeTest {
    private static final Pattern EXAMPLE = Pattern.compile("x\\.(\\w+)\\((.*)\\);\\s+// (true|false|-?\\d+)(: .*)?");
    private static final Due due = new Due();

    public static void main(String[] args) throws IOException, ReflectiveOperationException {
        String page = Files.readString(Path.of("README.md"), StandardCharsets.UTF_8);
        Set<String> shown = runExamples(page);
        for (Method m : WheelTables.class.getDeclaredMethods()) {
            if (java.lang.reflect.Modifier.isPublic(m.getModifiers())) {
                due.is("there is an example of " + m.getName(), shown.contains(m.getName()), true);
            }
        }
        namesEveryTest(page);
        due.end();
    }

    /** Each block begins with works of its own. */
    private static Set<String> runExamples(String page) throws ReflectiveOperationException {
        Set<String> shown = new TreeSet<>();
        WheelTables x = null;
        boolean inside = false;
        for (String line : page.split("\n")) {
            if (line.startsWith("```")) {
                inside = line.equals("```java");
                x = null;
            } else if (inside && line.equals("WheelTables x = new WheelTables();")) {
                x = new WheelTables();
            } else if (inside) {
                Matcher example = EXAMPLE.matcher(line);
                boolean good = x != null && example.matches();
                due.is("an example has works, a call and an answer: " + line, good, true);
                if (good) {
                    shown.add(example.group(1));
                    due.is(line, answer(x, example.group(1), example.group(2)), number(example.group(3)));
                }
            }
        }
        return shown;
    }

    private static long number(String answer) {
        return answer.equals("true") ? 1 : answer.equals("false") ? 0 : Long.parseLong(answer);
    }

    private static long answer(WheelTables x, String name, String args) throws ReflectiveOperationException {
        String[] words = args.isEmpty() ? new String[0] : args.split(", ");
        for (Method m : WheelTables.class.getDeclaredMethods()) {
            if (m.getName().equals(name) && m.getParameterCount() == words.length) {
                Object[] given = new Object[words.length];
                for (int i = 0; i < words.length; i++) {
                    Long v = Long.decode(words[i]);
                    given[i] = m.getParameterTypes()[i] == long.class ? (Object) v : (Object) v.intValue();
                }
                Object answer = m.invoke(x, given);
                return answer instanceof Boolean ? ((Boolean) answer ? 1 : 0) : ((Number) answer).longValue();
            }
        }
        throw new NoSuchMethodException(name);
    }

    private static void namesEveryTest(String page) throws IOException {
        try (DirectoryStream<Path> files = Files.newDirectoryStream(Path.of("src/test/java"), "*.java")) {
            for (Path file : files) {
                String name = file.getFileName().toString().replace(".java", "");
                due.is(name + " is named", Pattern.compile("\\b" + name + "\\b").matcher(page).find(), true);
            }
        }
    }
}
