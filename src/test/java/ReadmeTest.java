import java.io.File;
import java.io.IOException;
import java.net.MalformedURLException;
import java.net.URL;
import java.net.URLClassLoader;
import java.nio.file.Files;
import java.nio.file.Path;
import java.nio.file.Paths;
import java.util.ArrayList;
import java.util.Comparator;
import java.util.List;
import java.util.regex.Matcher;
import java.util.regex.Pattern;
import java.util.stream.Stream;
import javax.tools.JavaCompiler;
import javax.tools.ToolProvider;

/**
 * What README.md says that calls answer: each of its runs of Java is compiled as it stands, with the
 * answers behind the calls compared; and so is the same run of the model, for what the document asks.
 */
public final class ReadmeTest {
    private static final String[] FACE = {"sign", "read", "item", "service", "price", "least", "explain", "dimensional",
        "compare", "print", "at"};
    private static final Pattern BLOCK = Pattern.compile("```java\n(.*?)```", Pattern.DOTALL);
    private static final Pattern CALL = Pattern.compile("\\b\\w+\\.(\\w+)\\(");
    /** A call, its answer, and maybe words behind the answer. */
    private static final Pattern ANSWERED = Pattern.compile(
            "(post\\.\\w+\\([^;]*\\));\\s+// (-?\\d+|'.'|[A-Z]+|throws \\w+)(?:: (.+))?");
    private static final int LEAST_ANSWERS = 40;

    private final Check check = new Check("ReadmeTest");
    private int answers;

    public static void main(String[] args) throws Exception {
        new ReadmeTest().run();
    }

    private void run() throws Exception {
        String readme = Files.readString(Paths.get("README.md"));
        List<String> blocks = new ArrayList<>();
        Matcher matcher = BLOCK.matcher(readme);
        while (matcher.find()) {
            blocks.add(matcher.group(1));
        }
        check.sentence("README.md shows runs of calls, and each method in them");
        check.holds("runs", blocks.size() > 0);
        for (String method : FACE) {
            check.holds("it calls " + method, String.join("", blocks).contains("post." + method + "("));
        }
        checkEachCallHasItsAnswer(blocks);
        compareAnswers(blocks);
        check.end();
    }

    private void checkEachCallHasItsAnswer(List<String> blocks) {
        check.sentence("behind each call stands its answer");
        for (String line : String.join("", blocks).split("\n")) {
            Matcher call = CALL.matcher(line.replaceAll("//.*", "").replaceAll("\"[^\"]*\"", ""));
            boolean asks = false;
            while (call.find()) {
                asks |= !call.group(1).equals("sign") && !call.group(1).equals("toCharArray");
            }
            check.due("an answer of " + line, ANSWERED.matcher(line).matches() ? 1 : 0, asks ? 1 : 0);
            answers += asks ? 1 : 0;
        }
        check.holds("enough answers", answers >= LEAST_ANSWERS);
    }

    private void compareAnswers(List<String> blocks) throws Exception {
        Path folder = Files.createTempDirectory("readme");
        try {
            writeRun(folder, "ReadmeRun", blocks, false);
            writeRun(folder, "ReadmeModelRun", blocks, true);
            check.sentence("the program answers what README.md says");
            compareRun(folder, "ReadmeRun");
            check.sentence("the model answers what README.md says");
            compareRun(folder, "ReadmeModelRun");
        } finally {
            delete(folder);
        }
    }

    /** A class whose told() makes the runs and tells, row by row, each call, its answer and the one that is due. */
    private static void writeRun(Path folder, String name, List<String> blocks, boolean ofModel) throws IOException {
        StringBuilder source = new StringBuilder("public final class " + name + " {\n"
                + "    private static final StringBuilder TOLD = new StringBuilder();\n"
                + "    private static void tell(String call, long got, long due) {\n"
                + "        TOLD.append(call + \"\\t\" + got + \"\\t\" + due + \"\\n\");\n    }\n");
        StringBuilder calls = new StringBuilder();
        for (int i = 0; i < blocks.size(); i++) {
            source.append("    private static void run" + i + "() {\n");
            for (String line : blocks.get(i).split("\n")) {
                source.append("        " + compared(line) + "\n");
            }
            source.append("    }\n");
            calls.append("        run" + i + "();\n");
        }
        source.append("    public static String told() {\n" + calls + "        return TOLD.toString();\n    }\n}\n");
        String whole = source.toString();
        Files.writeString(folder.resolve(name + ".java"), ofModel
                ? whole.replace("PostTariff post = new PostTariff();", "Model post = new Model();") : whole);
    }

    /** A line of README.md, its answer compared; behind print() the words are the signs that are printed. */
    private static String compared(String line) {
        Matcher answered = ANSWERED.matcher(line);
        if (!answered.matches()) {
            return line;
        }
        String call = answered.group(1);
        String due = answered.group(2);
        if (due.startsWith("throws ")) {
            return "try { " + call + "; tell(\"" + call + "\", 0, 1); } catch (" + due.substring(7)
                    + " thrown) { tell(\"" + call + "\", 1, 1); }";
        }
        String constant = Character.isUpperCase(due.charAt(0)) ? "PostTariff." + due : due;
        StringBuilder row = new StringBuilder("tell(\"" + call + "\", " + call + ", " + constant + ");");
        if (call.equals("post.print()") && answered.group(3) != null) {
            String words = answered.group(3);
            for (int i = 0; i < words.length(); i++) {
                row.append(" tell(\"at " + i + " of " + words + "\", post.at(" + i + "), " + (int) words.charAt(i) + ");");
            }
        }
        return row.toString();
    }

    private void compareRun(Path folder, String name) throws Exception {
        String classPath = System.getProperty("java.class.path");
        JavaCompiler compiler = ToolProvider.getSystemJavaCompiler();
        int failed = compiler == null ? 1 : compiler.run(null, null, null, "-cp", classPath, "-d", folder.toString(),
                folder.resolve(name + ".java").toString());
        check.due("compiling what README.md shows", failed, 0);
        if (failed != 0) {
            return;
        }
        int rows = 0;
        try (URLClassLoader loader = new URLClassLoader(places(folder, classPath), ClassLoader.getPlatformClassLoader())) {
            String told = (String) loader.loadClass(name).getMethod("told").invoke(null);
            for (String row : told.split("\n")) {
                String[] parts = row.split("\t");
                check.due(parts[0], parts[1], parts[2]);
                rows += parts[0].startsWith("at ") ? 0 : 1;
            }
        }
        check.due("answers compared", rows, answers);
    }

    /** One loader for the run and for the classes that it uses, as these are of the package, too. */
    private static URL[] places(Path folder, String classPath) throws MalformedURLException {
        List<URL> places = new ArrayList<>();
        places.add(folder.toUri().toURL());
        for (String place : classPath.split(File.pathSeparator)) {
            places.add(Paths.get(place).toUri().toURL());
        }
        return places.toArray(new URL[0]);
    }

    private static void delete(Path folder) throws IOException {
        List<Path> paths;
        try (Stream<Path> walk = Files.walk(folder)) {
            paths = walk.sorted(Comparator.reverseOrder()).toList();
        }
        for (Path path : paths) {
            Files.delete(path);
        }
    }
}
