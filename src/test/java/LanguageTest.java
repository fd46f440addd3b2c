import java.io.IOException;
import java.nio.file.Files;
import java.nio.file.Paths;
import java.util.regex.Matcher;
import java.util.regex.Pattern;

/** Rules of the language that the source's text shows; it is run from the project's folder. */
public final class LanguageTest {
    private static final String[] FORBIDDEN = {
        "\\bimport\\b", "\\bpackage\\b", "\\bcatch\\b", "\\btry\\b", "\\bfinally\\b", "\\bsynchronized\\b",
        "\\bassert\\b", "->", "::", "Exact\\(", "\\bString\\b", "\\bSystem\\b", "\\bArrays\\b", "\\bprotected\\b",
        "\\bstatic\\s*\\{", "[^\\x00-\\x7f]", "\\bInteger\\.(?!bitCount\\b)", "\\bMath\\.(?!max\\b)"};

    public static void main(String[] args) throws IOException {
        Check check = new Check("LanguageTest");
        String source = Files.readString(Paths.get("src/main/java/PostTariff.java"));
        String code = source.replaceAll("(?s)/\\*.*?\\*/", "").replaceAll("//.*", "");
        for (String forbidden : FORBIDDEN) {
            Matcher matcher = Pattern.compile(forbidden).matcher(code);
            check.due("what stands for " + forbidden, matcher.find() ? matcher.group() : "", "");
        }
        check.due("static fields that are not final", count(code, "static (?!final)[\\w\\[\\]]+ \\w+( =|;)"), 0);
        check.due("throw statements", count(code, "\\bthrow\\b"), 1);
        check.end();
    }

    private static int count(String code, String pattern) {
        int count = 0;
        Matcher matcher = Pattern.compile(pattern).matcher(code);
        while (matcher.find()) {
            count++;
        }
        return count;
    }
}
