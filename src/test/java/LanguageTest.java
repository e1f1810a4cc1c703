import java.io.IOException;
import java.lang.reflect.Field;
import java.lang.reflect.Method;
import java.lang.reflect.Modifier;
import java.nio.file.Files;
import java.nio.file.Path;
import java.util.ArrayList;
import java.util.List;
import java.util.Set;
import java.util.regex.Matcher;
import java.util.regex.Pattern;

/** The rules of LANGUAGE.md that can be seen from the program's text or from its compiled classes. */
public final class LanguageTest {
    private static final Checks CHECKS = new Checks("LanguageTest");
    private static final Path PROGRAM = Path.of("src", "main", "java", "JobBoard.java");
    private static final String[] FORBIDDEN = {"package", "import", "throw", "throws", "try", "catch", "synchronized",
        "assert", "hashCode", "currentTimeMillis", "nanoTime", "random", "Thread"};
    private static final Set<Class<?>> CONSTANTS = Set.of(int.class, long.class, boolean.class, char.class,
            String.class, int[].class, long[].class, char[].class, byte[].class);
    private static final int MOST_CLASSES = 12;
    private static final int MOST_FIELDS = 20;
    private static final int MOST_PARAMETERS = 7;
    private static final int MOST_LINES = 60;

    public static void main(String[] args) throws IOException {
        List<Class<?>> classes = new ArrayList<>(List.of(JobBoard.class.getDeclaredClasses()));
        for (Class<?> inside : classes) {
            CHECKS.isTrue("rule 1: " + inside + " is private or package-visible, and static",
                    Modifier.isStatic(inside.getModifiers()) && !Modifier.isPublic(inside.getModifiers())
                            && !Modifier.isProtected(inside.getModifiers()));
            CHECKS.due("rule 2: classes inside " + inside, inside.getDeclaredClasses().length, 0);
        }
        classes.add(JobBoard.class);
        CHECKS.isTrue("rule 11: at most twelve classes", classes.size() <= MOST_CLASSES);
        for (Class<?> each : classes) {
            fields(each);
            methods(each);
        }
        words(withoutComments(Files.readString(PROGRAM)));
        methodLengths(Files.readAllLines(PROGRAM));
        CHECKS.end();
    }

    private static void fields(Class<?> owner) {
        int held = 0;
        for (Field field : owner.getDeclaredFields()) {
            if (!Modifier.isStatic(field.getModifiers())) {
                held++;
                continue;
            }
            CHECKS.isTrue("rule 5: " + field + " is a constant",
                    Modifier.isFinal(field.getModifiers()) && CONSTANTS.contains(field.getType()));
        }
        CHECKS.isTrue("rule 11: " + owner + " has at most twenty fields", held <= MOST_FIELDS);
    }

    private static void methods(Class<?> owner) {
        for (Method method : owner.getDeclaredMethods()) {
            CHECKS.isTrue("rule 11: " + method + " takes at most seven", method.getParameterCount() <= MOST_PARAMETERS);
            CHECKS.isTrue("rule 2: " + method + " is no lambda", !method.isSynthetic());
        }
    }

    private static String withoutComments(String program) {
        return program.replaceAll("(?s)/\\*.*?\\*/", "").replaceAll("//.*", "");
    }

    private static void words(String code) {
        for (String word : FORBIDDEN) {
            CHECKS.isTrue("the program is without " + word, !Pattern.compile("\\b" + word + "\\b").matcher(code).find());
        }
        Matcher library = Pattern.compile("\\bMath\\.(\\w+)").matcher(code);
        while (library.find()) {
            CHECKS.isTrue("rule 4: Math." + library.group(1), !library.group(1).endsWith("Exact"));
        }
    }

    /** A method's first line and the brace that ends it stand at the same depth. */
    private static void methodLengths(List<String> lines) {
        Pattern head = Pattern.compile("^( {4}| {8})\\w[^=;]*\\(.*\\{$");
        for (int i = 0; i < lines.size(); i++) {
            Matcher found = head.matcher(lines.get(i));
            if (found.find()) {
                int length = lines.subList(i, lines.size()).indexOf(found.group(1) + "}") + 1;
                CHECKS.isTrue("rule 11: the method is short: " + lines.get(i).trim(), length <= MOST_LINES);
            }
        }
    }
}
