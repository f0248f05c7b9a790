import java.nio.file.Files;
import java.nio.file.Path;
import java.util.regex.Matcher;
import java.util.regex.Pattern;

/** The rules of LANGUAGE.md that can be seen from the program's words. */
public final class RulesTest {
    private static final Due DUE = new Due("RulesTest");
    private static final String[] BARRED = {
        "\\bthrow\\b", "\\bthrows\\b", "\\btry\\b", "\\bcatch\\b", "\\bsynchronized\\b", "\\bassert\\b", "->", "::",
        "\\bpackage\\b", "\\bprotected\\b", "Exact\\b", "\\bSystem\\.(?!arraycopy)", "\\bThread\\b", "\\bRandom\\b",
        "\\bObject\\b", "\\bdouble\\b", "\\bfloat\\b", "\\bwhile\\s*\\(\\s*true", "\\bstatic\\s*\\{", "\\bMath\\.(?!min|max|floorMod|floorDiv)",
        "\\bArrays\\.(?!fill)", "\\bLong\\.(?!compare)", "\\bString\\b", "\\bvar\\b", "\\b(hashCode|equals|toString)\\b"};

    public static void main(String[] args) throws Exception {
        String root = System.getenv("ROOT");
        Path file = Path.of(root == null ? "." : root, "src/main/java/RuinHouse.java");
        String text = Files.readString(file);
        String code = text.replaceAll("(?s)/\\*.*?\\*/", "").replaceAll("//[^\n]*", "");
        for (String word : BARRED) {
            Matcher m = Pattern.compile(word).matcher(code);
            DUE.no("the program has " + word, m.find());
        }
        Matcher imports = Pattern.compile("import\\s+([^;]+);").matcher(code);
        while (imports.find()) {
            DUE.same("import", imports.group(1), "java.util.Arrays");
        }
        DUE.same("signs above 127", text.chars().filter(c -> c > 127).count(), 0);
        methodsAreShort(code);
        DUE.end();
    }

    /** A method begins with its header's brace and ends with the brace of the same depth. */
    private static void methodsAreShort(String code) {
        String[] lines = code.split("\n");
        for (int i = 0; i < lines.length; i++) {
            if (!lines[i].matches("\\s+[^=;]*\\)\\s*\\{") || lines[i].matches("\\s*(\\} else )?(if|for|while)\\b.*")) continue;
            int depth = 0;
            int end = i;
            for (; end < lines.length; end++) {
                for (char c : lines[end].toCharArray()) depth += c == '{' ? 1 : c == '}' ? -1 : 0;
                if (depth == 0) break;
            }
            DUE.yes("short: " + lines[i].trim(), end - i < 60);
        }
    }
}
