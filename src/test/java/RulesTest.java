import java.nio.file.Files;
import java.nio.file.Path;
import java.util.List;

/** The program keeps to LANGUAGE.md; and Rules, which looks, sees each rule broken in a small program. */
public final class RulesTest {
    private static final Due DUE = new Due("RulesTest");

    public static void main(String[] args) throws Exception {
        String root = System.getenv("ROOT");
        Path file = Path.of(root == null ? "." : root, "src/main/java/RuinHouse.java");
        DUE.same("RuinHouse.java", Rules.broken(Files.readString(file)).toString(), "[]");
        DUE.same("a small program", Rules.broken(program("", "")).toString(), "[]");
        faces();
        classes();
        types();
        library();
        statics();
        words();
        divisors();
        calls();
        loops();
        sizes();
        made();
        DUE.end();
    }

    /** Lines for the class, and lines for a method. */
    private static String program(String members, String lines) {
        return "import java.util.Arrays;\npublic final class RuinHouse {\n    private final int[] row = new int[5];\n"
                + "    private final Part part = new Part(1);\n    public int told(int i) {\n        " + lines
                + "\n        return i >= 0 && i < row.length ? row[i] : part.read();\n    }\n"
                + "    private static final class Part {\n        final int value;\n        Part(int v) {\n"
                + "            value = Math.max(v, 0);\n        }\n        int read() {\n            return value;\n"
                + "        }\n    }\n" + members + "}\n";
    }

    private static void breaks(int rule, String source) {
        List<String> broken = Rules.broken(source);
        boolean seen = broken.stream().anyMatch(b -> b.startsWith("rule " + rule + ",") || b.startsWith("rule " + rule + ":"));
        DUE.yes("rule " + rule + " is seen broken in\n" + source + broken, seen);
    }

    private static void member(int rule, String members) {
        breaks(rule, program(members, ""));
    }

    private static void line(int rule, String lines) {
        breaks(rule, program("", lines));
    }

    private static void faces() {
        breaks(1, "package a;\n" + program("", ""));
        breaks(1, program("", "") + "final class Other {\n}\n");
        breaks(1, program("", "").replace("public final class", "public class"));
        breaks(1, program("", "").replace("private static final class Part", "public static final class Part"));
        member(1, "int open() {\n return 1;\n}\n");
        member(1, "int open = 1;\n");
        member(1, "private int told() {\n return 1;\n}\n");
        breaks(1, program("", "").replace("read()", "told()"));
    }

    private static void classes() {
        member(2, "private final class Inner {\n}\n");
        member(2, "private interface Kind {\n int of();\n}\nprivate final Kind kind = () -> 1;\n");
        member(2, "private interface Kind {\n int of();\n}\nprivate final Kind kind = part::read;\n");
        member(2, "private interface Kind {\n}\nprivate final Kind kind = new Kind() {\n};\n");
        member(2, "private enum Kind {\n ONE {\n }\n}\n");
        line(2, "final class Local {\n}\n");
    }

    private static void types() {
        member(3, "private final Object thing = null;\n");
        member(3, "private final int[][][] cube = null;\n");
        member(3, "private final Part[][] parts = null;\n");
        member(3, "private final String[] words = null;\n");
        line(3, "Long many = 1L;");
        line(3, "double half = 0.5;");
    }

    private static void library() {
        breaks(4, "import java.util.Random;\n" + program("", ""));
        breaks(4, program("// " + (char) 233 + "\n", ""));
        line(4, "Arrays.sort(row);");
        line(4, "int k = Math.addExact(i, 1);");
        line(4, "int k = (int) Math.sqrt(i);");
        line(4, "int k = Integer.MAX_VALUE;");
        line(4, "long now = System.nanoTime();");
        line(4, "int k = part.hashCode();");
    }

    private static void statics() {
        member(5, "private static int count = 0;\n");
        member(5, "private static final Part PART = new Part(1);\n");
        member(5, "private static final int[] ROW = new int[4];\n");
        member(5, "static {\n}\n");
    }

    private static void words() {
        line(6, "if (i < 0) {\n throw new IllegalArgumentException();\n}");
        line(6, "try {\n row[0] = 1;\n} finally {\n row[0] = 2;\n}");
        line(6, "synchronized (row) {\n row[0] = 1;\n}");
        line(6, "assert i > 0;");
        line(6, "Part other = (Part) part;");
        line(6, "String a = \"a\";\nboolean same = a == \"b\";");
        line(6, "Integer a = 1;\nInteger b = 1;\nboolean same = a != b;");
        member(6, "private synchronized void wait(int k) {\n}\n");
        line(10, "String a = \"a\";\na = a + i;");
        line(10, "String a = \"a\";\na += i;");
    }

    private static void divisors() {
        line(7, "int k = 5 / i;");
        line(7, "int k = 5 % i;");
        line(7, "int k = 5;\nk /= i;");
        line(7, "int k = Math.floorMod(5, i);");
        line(7, "int k = i / 0;");
    }

    private static void calls() {
        member(8, "private int down(int k) {\n return k > 0 ? down(k - 1) : 0;\n}\n");
        member(8, "private int one(int k) {\n return other(k);\n}\nprivate int other(int k) {\n return one(k);\n}\n");
        StringBuilder chain = new StringBuilder();
        for (int k = 1; k <= 8; k++) {
            chain.append("private int d").append(k).append("() {\n return d").append(k + 1).append("();\n}\n");
        }
        member(11, chain + "private int d9() {\n return 0;\n}\n");
    }

    private static void loops() {
        line(9, "while (i > 0) {\n i--;\n}");
        line(9, "do {\n i--;\n} while (i > 0);");
        line(9, "for (;;) {\n break;\n}");
        line(9, "for (int k = 0; ; k++) {\n row[0] = k;\n}");
        line(9, "for (int k = 0; i < 5; k++) {\n row[0] = k;\n}");
        line(9, "for (int k = 0; k < 5; i++) {\n row[0] = k;\n}");
        line(9, "for (int k = 0; k < 5; k++) {\n k--;\n}");
        line(9, "for (int k = 0; k < 5; k++) {\n if (i > 0) {\n row[0] = k = 2;\n}\n}");
    }

    private static void sizes() {
        member(11, "private int many(int a, int b, int c, int d, int e, int f, int g, int h) {\n return a;\n}\n");
        member(11, "private void tall() {\n" + "row[0] = 1;\n".repeat(60) + "}\n");
        StringBuilder fields = new StringBuilder();
        StringBuilder inner = new StringBuilder();
        for (int k = 0; k < 20; k++) fields.append("private int f").append(k).append(" = 0;\n");
        for (int k = 0; k < 11; k++) inner.append("private static final class C").append(k).append(" {\n}\n");
        member(11, fields.toString());
        member(11, inner.toString());
    }

    private static void made() {
        line(12, "int[] more = new int[5];");
        line(12, "Part more = new Part(i);");
        member(12, "private static class Loose {\n Loose() {\n go();\n }\n void go() {\n }\n}\n");
        member(12, "private static final class Told {\n Told() {\n Told.hear(this);\n }\n"
                + " private static void hear(Told t) {\n }\n}\n");
    }
}
