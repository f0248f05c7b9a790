/** Promise 13: two. */
public final class TwoTest {
    private static final Due DUE = new Due("TwoTest");

    public static void main(String[] args) {
        ordinary();
        manyPurses();
        refused();
        DUE.end();
    }

    private static int what(int a, int b, int p, int q) {
        return a + 16 * b + 256 * p + 4096 * q;
    }

    private static void ask(RuinHouse x, int what, int first, int second, int n, boolean help, String number) {
        String call = "two(" + what + ", " + first + ", " + second + ", " + n + ", " + help + ")";
        DUE.yes(call, x.two(what, first, second, n, help));
        DUE.same(call + " NUMBER", Due.number(x), number);
    }

    private static void ordinary() {
        RuinHouse x = new RuinHouse();
        Due.fill(x, 1, 0, 500, 5, 500);
        Due.fill(x, 2, 0, 1000);
        Due.fill(x, 3, 20, 1000);
        ask(x, what(0, 3, 1, 0), 1, 2, 1, true, "0.500000");
        ask(x, what(1, 3, 1, 0), 1, 2, 1, true, "1.000000");
        ask(x, what(1, 3, 1, 0), 1, 2, 1, false, "0.500000");
        ask(x, what(3, 1, 0, 1), 2, 1, 1, true, "1.000000");
        ask(x, what(3, 0, 0, 1), 2, 1, 1, true, "0.500000");
        ask(x, what(5, 0, 0, 0), 1, 2, 2, false, "0.750000000000");
        ask(x, what(0, 5, 0, 0), 1, 2, 2, true, "0.750000000000");
        ask(x, what(12, 12, 6, 6), 3, 2, 5, false, "0." + "0".repeat(30));
        ask(x, what(12, 12, 6, 6), 2, 2, 5, false, "1." + "0".repeat(30));
        ask(x, what(12, 12, 6, 6), 2, 2, 5, true, "1." + "0".repeat(30));
        ask(x, what(12, 12, 6, 6), 3, 2, 3, true, "1." + "0".repeat(18));
        ask(x, what(12, 11, 6, 6), 3, 2, 3, true, "0." + "0".repeat(18));
    }

    /** All purses with two unlike books, against the slow way with both purses apart. */
    private static void manyPurses() {
        RuinHouse x = new RuinHouse();
        Slow y = new Slow();
        int[] row = {0, 600, 1, 100, 3, 200, 7, 60, 20, 40};
        int[] other = {0, 403, 2, 301, 6, 199, 11, 97};
        Due.fill(x, 5, row);
        Due.fill(x, 6, other);
        for (int i = 0; i < row.length; i += 2) y.set(5, row[i], row[i + 1]);
        for (int i = 0; i < other.length; i += 2) y.set(6, other[i], other[i + 1]);
        for (int a = 0; a <= 12; a += 2) {
            for (int b = 0; b <= 12; b += 3) {
                for (int n = 1; n <= 5; n++) {
                    int what = what(a, b, (a + b + n) % 7, (a + 2 * b) % 7);
                    boolean help = (a / 2 + n) % 3 != 0;
                    String call = "two(" + what + ", 5, 6, " + n + ", " + help + ")";
                    DUE.same(call, x.two(what, 5, 6, n, help) ? 1 : 0, y.two(what, 5, 6, n, help) ? 1 : 0);
                    for (int i = 0; i <= 6 * n; i++) DUE.same(call + " digit(" + i + ")", x.digit(i), y.digit(i));
                }
            }
        }
    }

    private static void refused() {
        RuinHouse x = new RuinHouse();
        Due.fill(x, 1, 0, 500, 5, 500);
        Due.fill(x, 2, 0, 1000);
        x.set(3, 0, 1);
        x.two(what(1, 3, 1, 0), 1, 2, 1, false);
        int[] wrong = {-1, 65536, what(13, 0, 0, 0), what(15, 0, 0, 0), what(0, 13, 0, 0), what(0, 0, 7, 0),
            what(0, 0, 0, 7), what(0, 0, 0, 15), what(0, 0, 15, 0), Integer.MIN_VALUE, Integer.MAX_VALUE,
            65536 + what(1, 3, 1, 0), what(1, 3, 1, 0) - 65536};
        for (int w : wrong) {
            DUE.no("two(" + w + ", 1, 2, 1, true)", x.two(w, 1, 2, 1, true));
        }
        DUE.no("n 0", x.two(0, 1, 2, 0, true));
        DUE.no("n 6", x.two(0, 1, 2, 6, true));
        DUE.no("n MIN", x.two(0, 1, 2, Integer.MIN_VALUE, true));
        DUE.no("first not right", x.two(0, 3, 2, 1, true));
        DUE.no("second not right", x.two(0, 2, 3, 1, true));
        DUE.no("first -1", x.two(0, -1, 2, 1, true));
        DUE.no("second 8", x.two(0, 2, 8, 1, true));
        DUE.same("as it was", Due.number(x), "0.500000");
    }
}
