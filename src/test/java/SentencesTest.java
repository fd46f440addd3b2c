import java.io.IOException;
import java.lang.reflect.Method;
import java.nio.file.Files;
import java.nio.file.Path;
import java.nio.file.Paths;
import java.util.ArrayList;
import java.util.List;
import java.util.TreeSet;
import java.util.stream.Stream;

/** src/test/SENTENCES.md: it has all the words of the document, and the tests that it names are there. */
public final class SentencesTest {
    private static final String NO_ANSWER = "no answer is asked for";

    private final Check check = new Check("SentencesTest");

    public static void main(String[] args) throws IOException {
        SentencesTest test = new SentencesTest();
        List<String> lines = Files.readAllLines(Paths.get("src/test/SENTENCES.md"));
        test.checkWords(lines);
        test.checkTests(lines);
        test.check.end();
    }

    /** The words of both, without headings and what only sets them out. */
    private void checkWords(List<String> lines) throws IOException {
        check.sentence("it has every sentence of the document");
        StringBuilder document = new StringBuilder();
        for (String line : Files.readAllLines(Paths.get("../shared/DOC.md"))) {
            document.append(line.startsWith("#") || line.startsWith("```") ? "" : line).append(' ');
        }
        StringBuilder told = new StringBuilder();
        for (String line : lines) {
            told.append(line.startsWith("> ") ? line.substring(2) : "").append(' ');
        }
        String[] due = words(document);
        String[] got = words(told);
        for (int i = 0; i < Math.min(due.length, got.length); i++) {
            check.due("word " + i + ", behind " + String.join(" ", List.of(due).subList(Math.max(0, i - 5), i)), got[i], due[i]);
            if (!got[i].equals(due[i])) {
                return;
            }
        }
        check.due("words", got.length, due.length);
    }

    private static String[] words(StringBuilder text) {
        return text.toString().replace("`", "").strip().split("\\s+");
    }

    private void checkTests(List<String> lines) throws IOException {
        check.sentence("each sentence names its tests, and each method of the EdgesTests stands for one");
        TreeSet<String> named = new TreeSet<>();
        String sentence = "";
        for (String line : lines) {
            if (line.startsWith("> ")) {
                check.due("tests of: " + sentence, sentence, "");
                sentence = line.substring(2);
            } else if (!line.isEmpty() && !sentence.isEmpty()) {
                checkNamed(sentence, line, named);
                sentence = "";
            }
        }
        check.due("tests of: " + sentence, sentence, "");
        check.due("EdgesTests without a sentence", edges().stream().filter(one -> !named.contains(one)).toList().toString(), "[]");
    }

    private void checkNamed(String sentence, String line, TreeSet<String> named) {
        if (line.startsWith(NO_ANSWER)) {
            return;
        }
        for (String test : line.split(", ")) {
            named.add(test);
            check.holds(test + " of: " + sentence, isThere(test));
        }
    }

    private static boolean isThere(String test) {
        String[] parts = test.split("\\.");
        try {
            String method = parts.length == 2 ? parts[1] : "main";
            for (Method one : Class.forName(parts[0]).getDeclaredMethods()) {
                if (one.getName().equals(method)) {
                    return Files.exists(Paths.get("src/test/java/" + parts[0] + ".java"));
                }
            }
            return false;
        } catch (ClassNotFoundException missing) {
            return false;
        }
    }

    /** The methods that an EdgesTest runs: those without a parameter. */
    private static List<String> edges() throws IOException {
        List<String> found = new ArrayList<>();
        try (Stream<Path> files = Files.list(Paths.get("src/test/java"))) {
            for (Path file : files.toList()) {
                String name = file.getFileName().toString().replace(".java", "");
                if (name.endsWith("EdgesTest")) {
                    Files.readString(file).lines().filter(line -> line.matches("        test\\.\\w+\\(\\);"))
                            .forEach(line -> found.add(name + line.strip().substring(4).replace("();", "")));
                }
            }
        }
        if (found.isEmpty()) {
            throw new IllegalStateException("no EdgesTest is found");
        }
        return found;
    }
}
