import java.io.IOException;
import java.lang.reflect.Field;
import java.lang.reflect.Modifier;
import java.nio.file.Files;
import java.nio.file.Path;
import java.util.List;
import java.util.regex.Pattern;

/** What can be seen of LANGUAGE.md's rules from the lines of the source. */
final class LanguageTests {
    private static final String[] FORBIDDEN = {"->", "::", "\\btry\\b", "\\bcatch\\b", "\\bfinally\\b",
        "\\bsynchronized\\b", "\\bassert\\b", "static \\{", "Exact\\(", "\\bdouble\\b", "\\bString\\b", "\\brecord\\b",
        "^package ", "Math\\.(?!max|min|abs|floor)", "System\\.(?!arraycopy)", "Arrays\\.(?!copyOf|fill)",
        "^import (?!java\\.util\\.Arrays;)", "while \\(true", "for \\(;", "\\bLambda\\b", "equals\\(", "hashCode"};
    private static final int LONGEST_METHOD = 60;
    private static final int MOST_PARAMETERS = 7;

    private LanguageTests() {
    }

    private static String codeOf(String line) {
        return line.replaceAll("^\\s*(/\\*\\*|//).*", "");
    }

    private static int countLines(List<String> lines, Pattern pattern) {
        int count = 0;
        for (String line : lines) {
            count += pattern.matcher(codeOf(line)).find() ? 1 : 0;
        }
        return count;
    }

    static void all() {
        List<String> lines;
        try {
            lines = Files.readAllLines(Path.of("src/main/java/ArrayFile.java"));
        } catch (IOException e) {
            Due.is("the source can be read", 1, 0);
            return;
        }
        for (String pattern : FORBIDDEN) {
            Due.is("lines with " + pattern, 0, countLines(lines, Pattern.compile(pattern)));
        }
        int classes = 0;
        int start = -1;
        String ending = "";
        for (int i = 0; i < lines.size(); i++) {
            String code = codeOf(lines.get(i));
            classes += code.matches(".*\\b(class|interface|enum) .*\\{") ? 1 : 0;
            if (start < 0 && code.matches("\\s+[\\w\\[\\] ]*\\w+\\([\\w\\[\\], ]*\\)( throws .*)?( \\{)?") && !code.matches(
                    "\\s+(if|for|while|switch|\\} else).*")) {
                start = i;
                ending = code.replaceAll("\\S.*", "") + "}";
                Due.is("parameters in line " + (i + 1), 1,
                        code.replaceAll("\\).*", "").split(",").length <= MOST_PARAMETERS ? 1 : 0);
            }
            if (start >= 0 && code.equals(ending)) {
                Due.is("length of the method in line " + (start + 1), 1, i - start <= LONGEST_METHOD ? 1 : 0);
                start = -1;
            }
        }
        Due.is("at most twelve classes", 1, classes >= 1 && classes <= 12 ? 1 : 0);
        checkConstructors(lines);
        checkFields(ArrayFile.class);
        for (Class<?> inside : ArrayFile.class.getDeclaredClasses()) {
            checkFields(inside);
        }
    }

    /** Rule 6: no throw in a constructor. */
    private static void checkConstructors(List<String> lines) {
        String ending = "";
        int count = 0;
        for (String line : lines) {
            if (line.matches("\\s+(public )?[A-Z]\\w*\\(.*\\) \\{")) {
                ending = line.replaceAll("\\S.*", "") + "}";
                count++;
            } else if (line.equals(ending)) {
                ending = "";
            }
            if (!ending.isEmpty()) {
                Due.is("throw in a constructor: " + line, 0, line.contains("throw ") ? 1 : 0);
            }
        }
        Due.is("constructors were read", 1, count > 5 ? 1 : 0);
    }

    /** Rules 3, 5 and 11: the types of fields, static ones final, and at most twenty others. */
    private static void checkFields(Class<?> one) {
        int count = 0;
        for (Field field : one.getDeclaredFields()) {
            Class<?> type = field.getType();
            boolean isStatic = Modifier.isStatic(field.getModifiers());
            Class<?> part = type.isArray() ? type.getComponentType() : type;
            Due.is("type of " + field, 1, part == int.class || part == boolean.class
                    || part.getEnclosingClass() == ArrayFile.class && !isStatic ? 1 : 0);
            Due.is("static and not final: " + field, 1, !isStatic || Modifier.isFinal(field.getModifiers()) ? 1 : 0);
            count += isStatic ? 0 : 1;
        }
        Due.is("at most twenty fields in " + one, 1, count <= 20 ? 1 : 0);
    }
}
