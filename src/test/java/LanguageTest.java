import java.io.IOException;
import java.lang.reflect.Executable;
import java.lang.reflect.Field;
import java.lang.reflect.Modifier;
import java.nio.file.Files;
import java.nio.file.Paths;
import java.util.regex.Matcher;
import java.util.regex.Pattern;

/** Rules of the language that the source's text and its classes show; it is run from the project's folder. */
public final class LanguageTest {
    private static final String[] FORBIDDEN = {
        "\\bpackage\\b", "\\bimport (?!java\\.util\\.(ArrayList|List|Arrays|Iterator|NoSuchElementException);)",
        "\\bfinally\\b", "\\bsynchronized\\b", "\\bassert\\b", "\\bprotected\\b", "\\bstatic\\s*\\{", "->", "::", "Exact\\(",
        "\\bSystem\\.(?!arraycopy\\b)", "\\bArrays\\.(?!(copyOf|copyOfRange|fill)\\b)", "\\bThread\\b", "\\bRandom\\b",
        "\\b(NullPointer|ClassCast|ArrayStore|NegativeArraySize|ArrayIndexOutOfBounds)Exception\\b",
        "\\bThrowable\\b", "\\bError\\b", "catch \\((Runtime)?Exception\\b", "getMessage", "[^\\x00-\\x7f]",
        "\"\\s*\\+", "\\+\\s*\"", "\\b(equals|hashCode|toString)\\(\\) \\{"};
    private static final int MOST_CLASSES = 12;
    private static final int MOST_FIELDS = 20;
    private static final int MOST_PARAMETERS = 7;
    private static final int MOST_LINES = 60;

    private final Check check = new Check("LanguageTest");

    public static void main(String[] args) throws IOException {
        LanguageTest test = new LanguageTest();
        String source = Files.readString(Paths.get("src/main/java/PostTariff.java"));
        test.checkWords(source.replaceAll("(?s)/\\*.*?\\*/", "").replaceAll("//.*", ""));
        test.checkMethodLengths(source);
        test.checkClasses();
        test.check.end();
    }

    private void checkWords(String code) {
        for (String forbidden : FORBIDDEN) {
            Matcher matcher = Pattern.compile(forbidden).matcher(code);
            check.due("what stands for " + forbidden, matcher.find() ? matcher.group() : "", "");
        }
    }

    /** A method begins with a line that ends with { and ends with a line of a } as far in as it. */
    private void checkMethodLengths(String source) {
        String[] lines = source.split("\n");
        for (int i = 0; i < lines.length; i++) {
            Matcher head = Pattern.compile("^( {4,8})[\\w<\\[].*\\) *(throws \\w+ )?\\{$").matcher(lines[i]);
            if (head.find()) {
                int end = i;
                while (end < lines.length && !lines[end].equals(head.group(1) + "}")) {
                    end++;
                }
                check.due("a short method: " + lines[i].trim(), end - i <= MOST_LINES ? 1 : 0, 1);
            }
        }
    }

    private void checkClasses() {
        Class<?>[] inside = PostTariff.class.getDeclaredClasses();
        check.due("some classes", inside.length + 1 <= MOST_CLASSES ? 1 : 0, 1);
        checkClass(PostTariff.class);
        for (Class<?> one : inside) {
            checkClass(one);
        }
    }

    private void checkClass(Class<?> one) {
        int fields = 0;
        for (Field field : one.getDeclaredFields()) {
            boolean fixed = Modifier.isStatic(field.getModifiers());
            fields += fixed ? 0 : 1;
            check.due(field + " is final if it is static", !fixed || Modifier.isFinal(field.getModifiers()) ? 1 : 0, 1);
        }
        check.due("some fields of " + one, fields <= MOST_FIELDS ? 1 : 0, 1);
        for (Executable method : one.getDeclaredMethods()) {
            checkParameters(method);
        }
        for (Executable constructor : one.getDeclaredConstructors()) {
            checkParameters(constructor);
        }
    }

    private void checkParameters(Executable method) {
        check.due("parameters of " + method, method.getParameterCount() <= MOST_PARAMETERS ? 1 : 0, 1);
    }
}
