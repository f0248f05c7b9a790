import java.net.URL;
import java.net.URLClassLoader;
import java.nio.file.Files;
import java.nio.file.Path;
import java.util.ArrayList;
import java.util.List;
import java.util.regex.Matcher;
import java.util.regex.Pattern;
import javax.tools.ToolProvider;

/** The README's code is one program; behind "// ->" stands what an expression answers. */
public final class ReadmeTest {
    private static final Due DUE = new Due("ReadmeTest");
    private static final Pattern BLOCK = Pattern.compile("(?s)```java\n(.*?)```");
    private static final Pattern ASKED = Pattern.compile("(.*);\\s*// -> (.*)");
    private static final String[] CALLS = {"set", "parts", "right", "told", "layer", "part", "ruin", "at", "deep", "ever",
        "worth", "two", "digit", "decimals", "just", "lighter"};

    public static void main(String[] args) throws Exception {
        String root = System.getenv("ROOT");
        String text = Files.readString(Path.of(root == null ? "." : root, "README.md"));
        List<String> due = new ArrayList<>();
        List<String> got = answers(program(text, due));
        DUE.same("answers", got.size(), due.size());
        for (int i = 0; i < Math.min(due.size(), got.size()); i++) {
            DUE.same("README, answer " + (i + 1), got.get(i), due.get(i));
        }
        for (String call : CALLS) {
            DUE.yes("README has a call of " + call, Pattern.compile("x\\." + call + "\\(.*// -> ").matcher(text).find());
        }
        DUE.yes("README says how to run the tests", text.contains("`.ci/run`"));
        DUE.yes("at most 512 calls", due.size() <= House.MOST_CALLS);
        DUE.end();
    }

    /** A class whose go() answers what each expression did; what the README says goes into due. */
    private static String program(String text, List<String> due) {
        StringBuilder lines = new StringBuilder("public final class ReadmeCode {\n"
                + "    public static java.util.List<String> go() {\n"
                + "        java.util.List<String> got = new java.util.ArrayList<>();\n");
        Matcher block = BLOCK.matcher(text);
        while (block.find()) {
            for (String line : block.group(1).split("\n")) {
                Matcher asked = ASKED.matcher(line);
                boolean is = asked.matches();
                if (is) due.add(asked.group(2).trim());
                lines.append(is ? "got.add(String.valueOf(" + asked.group(1) + "));" : line).append('\n');
            }
        }
        return lines.append("        return got;\n    }\n}\n").toString();
    }

    @SuppressWarnings("unchecked")
    private static List<String> answers(String source) throws Exception {
        Path work = Files.createTempDirectory("readme");
        Path file = work.resolve("ReadmeCode.java");
        Files.writeString(file, source);
        String path = System.getProperty("java.class.path");
        int code = ToolProvider.getSystemJavaCompiler().run(null, null, null, "-cp", path, "-d", work.toString(), file.toString());
        DUE.same("javac of the README's code", code, 0);
        if (code != 0) return List.of();
        try (URLClassLoader loader = new URLClassLoader(new URL[] {work.toUri().toURL()})) {
            return (List<String>) loader.loadClass("ReadmeCode").getMethod("go").invoke(null);
        } finally {
            Files.deleteIfExists(work.resolve("ReadmeCode.class"));
            Files.deleteIfExists(file);
            Files.deleteIfExists(work);
        }
    }
}
