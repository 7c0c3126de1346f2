import java.io.IOException;
import java.lang.reflect.Executable;
import java.lang.reflect.Field;
import java.lang.reflect.Modifier;
import java.nio.file.Files;
import java.nio.file.Path;
import java.util.ArrayList;
import java.util.List;
import java.util.Set;
import java.util.regex.Matcher;
import java.util.regex.Pattern;

/** What of the rules in LANGUAGE.md can be read of the source or of the compiled class. */
public final class LanguageTest {
    private static final Path SOURCE = Path.of("src/main/java/TermBook.java");
    private static final String[] NOT_USED = {
        "package", "import", "throw", "throws", "try", "catch", "finally", "synchronized", "assert", "native",
        "volatile", "transient", "equals", "hashCode", "toString"
    };
    private static final Set<String> NAMES = Set.of("TermBook", "Text", "Term", "Leaves", "Integer", "Long", "Math");
    private static final int MOST_LINES = 60;

    public static void main(String[] args) throws IOException {
        Check check = new Check("LanguageTest");
        String code = withoutComments(Files.readString(SOURCE));
        words(check, code);
        names(check, code);
        methodLengths(check, code);
        List<Class<?>> classes = new ArrayList<>(List.of(TermBook.class.getDeclaredClasses()));
        for (Class<?> inside : classes) {
            check.due(inside + " is static", Modifier.isStatic(inside.getModifiers()) ? 1 : 0, 1);
            check.due(inside + " is not for others", Modifier.isPublic(inside.getModifiers()) ? 1 : 0, 0);
        }
        classes.add(TermBook.class);
        check.due("some twelve classes at most", classes.size() <= 12 ? 1 : 0, 1);
        for (Class<?> own : classes) {
            fields(check, own);
            parameters(check, own);
        }
        check.end();
    }

    private static String withoutComments(String source) {
        return source.replaceAll("(?s)/\\*.*?\\*/", " ").replaceAll("//[^\n]*", " ");
    }

    private static void words(Check check, String code) {
        for (String word : NOT_USED) {
            check.due("rules 4 and 6: " + word, Pattern.compile("\\b" + word + "\\b").matcher(code).find() ? 1 : 0, 0);
        }
        check.due("rule 2: lambdas", code.contains("->") ? 1 : 0, 0);
        check.due("rule 2: method references", code.contains("::") ? 1 : 0, 0);
        check.due("rule 4: functions that end in Exact", code.contains("Exact(") ? 1 : 0, 0);
        check.due("rule 3: texts", code.contains("\"") ? 1 : 0, 0);
    }

    /** Class names are those that begin with a great letter and have a small one. */
    private static void names(Check check, String code) {
        Matcher name = Pattern.compile("\\b[A-Z]\\w*[a-z]\\w*\\b").matcher(code);
        while (name.find()) {
            check.due("rule 4: " + name.group(), NAMES.contains(name.group()) ? 1 : 0, 1);
        }
    }

    /** A method begins with a line that ends with ') {' and ends with a brace as far to the left. */
    private static void methodLengths(Check check, String code) {
        Matcher method = Pattern.compile("(?m)^( {4,8})(?=[a-zA-Z]).*\\) \\{\n(?:.*\n)*?\\1\\}").matcher(code);
        while (method.find()) {
            long lines = method.group().lines().count();
            String first = method.group().lines().findFirst().orElse("").trim();
            check.due("rule 11: lines of " + first, lines <= MOST_LINES ? 1 : 0, 1);
        }
    }

    private static void fields(Check check, Class<?> own) {
        int changing = 0;
        for (Field field : own.getDeclaredFields()) {
            if (Modifier.isStatic(field.getModifiers())) {
                check.due("rule 5: " + field + " is final", Modifier.isFinal(field.getModifiers()) ? 1 : 0, 1);
                check.due("rule 5: " + field + " is an int", field.getType() == int.class ? 1 : 0, 1);
            } else {
                changing++;
            }
        }
        check.due("rule 11: fields of " + own, changing <= 20 ? 1 : 0, 1);
    }

    private static void parameters(Check check, Class<?> own) {
        List<Executable> all = new ArrayList<>(List.of(own.getDeclaredMethods()));
        all.addAll(List.of(own.getDeclaredConstructors()));
        for (Executable one : all) {
            check.due("rule 11: parameters of " + one, one.getParameterCount() <= 7 ? 1 : 0, 1);
        }
    }
}
