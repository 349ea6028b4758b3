import java.io.IOException;
import java.lang.reflect.Constructor;
import java.lang.reflect.Field;
import java.lang.reflect.Method;
import java.lang.reflect.Modifier;
import java.nio.charset.StandardCharsets;
import java.nio.file.Files;
import java.nio.file.Path;
import java.util.List;
import java.util.Set;
import java.util.TreeSet;
import java.util.regex.Matcher;
import java.util.regex.Pattern;

/** The face of the class, and those rules of LANGUAGE.md that can be seen from outside; run from the project's root. */
final class LanguageTest {
    private static final Due due = new Due();

    public static void main(String[] args) throws IOException {
        String source = Files.readString(Path.of("src/main/java/WheelTables.java"), StandardCharsets.UTF_8);
        String code = withoutCommentsAndTexts(source);
        hasTheFace();
        hidesTheRest();
        hasSmallClasses();
        hasNoForbiddenWords(code);
        hasOnlyPlainSigns(source);
        hasShortMethods(source);
        due.end();
    }

    private static void fits(String what, boolean good) {
        due.is(what, good, true);
    }

    private static String withoutCommentsAndTexts(String source) {
        String code = source.replaceAll("(?s)/\\*.*?\\*/", " ").replaceAll("//[^\\n]*", " ");
        return code.replaceAll("\"(\\\\.|[^\"\\\\])*\"", "\"\"").replaceAll("'(\\\\.|[^'\\\\])'", "' '");
    }

    /** Each method of the document with its types, such as "int figure(int, int, int)". */
    private static Set<String> documentFace() throws IOException {
        Set<String> face = new TreeSet<>();
        Pattern method = Pattern.compile("^    public (int|long|boolean) (\\w+)\\((.*)\\);$");
        for (String line : Files.readAllLines(Path.of("../shared/DOC.md"), StandardCharsets.UTF_8)) {
            Matcher m = method.matcher(line);
            if (m.matches()) {
                face.add(m.group(1) + " " + m.group(2) + "(" + m.group(3).replaceAll(" \\w+(?=,|$)", "") + ")");
            }
        }
        return face;
    }

    private static void hasTheFace() throws IOException {
        Set<String> mine = new TreeSet<>();
        for (Method m : WheelTables.class.getDeclaredMethods()) {
            if (Modifier.isPublic(m.getModifiers())) {
                StringBuilder types = new StringBuilder();
                for (Class<?> type : m.getParameterTypes()) {
                    types.append(types.length() == 0 ? "" : ", ").append(type);
                }
                mine.add(m.getReturnType() + " " + m.getName() + "(" + types + ")");
            }
        }
        Set<String> face = documentFace();
        due.is("methods of the document", face.size(), 37);
        fits("the face is " + mine, mine.equals(face));
        int modifiers = WheelTables.class.getModifiers();
        fits("public and final", Modifier.isPublic(modifiers) && Modifier.isFinal(modifiers));
        fits("one constructor", WheelTables.class.getDeclaredConstructors().length == 1);
        for (Constructor<?> c : WheelTables.class.getDeclaredConstructors()) {
            fits("a public one without arguments", Modifier.isPublic(c.getModifiers()) && c.getParameterCount() == 0);
        }
    }

    private static void hidesTheRest() {
        Set<String> faceNames = new TreeSet<>();
        for (Method m : WheelTables.class.getDeclaredMethods()) {
            if (Modifier.isPublic(m.getModifiers())) {
                faceNames.add(m.getName());
            }
        }
        for (Method m : WheelTables.class.getDeclaredMethods()) {
            if (!Modifier.isPublic(m.getModifiers())) {
                fits(m + " is private", Modifier.isPrivate(m.getModifiers()));
                fits(m + " has a name of its own", !faceNames.contains(m.getName()));
            }
        }
        for (Field f : WheelTables.class.getDeclaredFields()) {
            boolean none = f.getName().equals("NONE") && Modifier.isPublic(f.getModifiers());
            fits(f + " is private", none || Modifier.isPrivate(f.getModifiers()));
            fits(f + " is final if it is static",
                !Modifier.isStatic(f.getModifiers()) || Modifier.isFinal(f.getModifiers()));
        }
        for (Class<?> c : WheelTables.class.getDeclaredClasses()) {
            fits(c + " is static", Modifier.isStatic(c.getModifiers()));
            fits(c + " is not public", !Modifier.isPublic(c.getModifiers()) && !Modifier.isProtected(c.getModifiers()));
            for (Method m : c.getDeclaredMethods()) {
                fits(m + " has a name of its own", !faceNames.contains(m.getName()));
            }
        }
    }

    private static void hasSmallClasses() {
        Class<?>[] inside = WheelTables.class.getDeclaredClasses();
        fits("at most some twelve classes", inside.length + 1 <= 12);
        for (Class<?> c : inside) {
            hasFewFields(c);
        }
        hasFewFields(WheelTables.class);
    }

    private static void hasFewFields(Class<?> c) {
        int fields = 0;
        for (Field f : c.getDeclaredFields()) {
            fields += Modifier.isStatic(f.getModifiers()) ? 0 : 1;
        }
        fits(c + " has at most some twenty fields", fields <= 20);
        for (Method m : c.getDeclaredMethods()) {
            fits(m + " takes at most seven", m.getParameterCount() <= 7);
        }
    }

    private static void hasNoForbiddenWords(String code) {
        List<String> words = List.of("throw", "throws", "try", "catch", "finally", "synchronized", "assert", "native",
            "Exception", "Error", "Object", "Thread", "System\\.(?!arraycopy)\\w+", "Math\\.\\w+Exact", "Random",
            "hashCode", "toString", "package", "double", "float", "lambda");
        for (String word : words) {
            fits("no " + word, !Pattern.compile("\\b" + word + "\\b").matcher(code).find());
        }
        fits("no lambda", !code.contains("->"));
        fits("no method reference", !code.contains("::"));
        fits("no static initialiser", !Pattern.compile("static\\s*\\{").matcher(code).find());
        Matcher imports = Pattern.compile("import\\s+([^;]+);").matcher(code);
        while (imports.find()) {
            fits("import of " + imports.group(1),
                imports.group(1).matches("java\\.util\\.(Arrays|ArrayList|List|Iterator)"));
        }
    }

    private static void hasOnlyPlainSigns(String source) {
        fits("signs 1 to 127", source.chars().allMatch(c -> c >= 1 && c <= 127));
    }

    /** A method's brace stands at the same depth as its first line. */
    private static void hasShortMethods(String source) {
        String[] lines = source.split("\n");
        for (int i = 0; i < lines.length; i++) {
            Matcher head = Pattern.compile("^( {4}| {8})(?! )[\\w\\[\\] ]+\\(.*\\) \\{$")
                .matcher(lines[i]);
            if (!head.matches()) {
                continue;
            }
            int end = i;
            while (end < lines.length && !lines[end].equals(head.group(1) + "}")) {
                end++;
            }
            fits("line " + (i + 1) + ": at most some sixty lines", end - i <= 60);
        }
    }
}
