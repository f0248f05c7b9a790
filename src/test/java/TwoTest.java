/** Promise 13 and the terms' part 4: TWO HOUSES. */
public final class TwoTest {
    private static final Due DUE = new Due("TwoTest");
    private static final int MIN = Integer.MIN_VALUE;
    private static final int MAX = Integer.MAX_VALUE;

    public static void main(String[] args) {
        atOneTime();
        claimsApart();
        lacksJustThat();
        thatMuchGoes();
        bothBelow();
        overStaysOver();
        withoutHelp();
        toldWhole();
        purseEdges();
        premiumEdges();
        tickEdges();
        whatOutside();
        bookEdges();
        outside();
        manyPurses();
        DUE.end();
    }

    private static int what(int a, int b, int p, int q) {
        return a + 16 * b + 256 * p + 4096 * q;
    }

    private static void ask(House x, int what, int first, int second, int n, boolean help, String number) {
        String call = "two(" + what + ", " + first + ", " + second + ", " + n + ", " + help + ")";
        DUE.yes(call, x.two(what, first, second, n, help));
        DUE.same(call + " NUMBER", x.number(), number);
    }

    private static String stands(int n) {
        return "1." + "000000".repeat(n);
    }

    private static String over(int n) {
        return "0." + "000000".repeat(n);
    }

    /** Book 1: nothing or 5; 2: nothing; 3: always 20. */
    private static House some() {
        return new House().with(1, 0, 500, 5, 500).with(2, 0, 1000).with(3, 20, 1000);
    }

    private static void atOneTime() {
        DUE.sentence("TWO HOUSES have a TICK each at one time");
        House x = new House().with(1, 3, 1000).with(2, 0, 1000);
        // Together: 0 - 3 and 0 + 3; it would be over if the first house's tick stood alone.
        ask(x, what(0, 0, 0, 3), 1, 2, 1, true, stands(1));
        ask(x, what(0, 0, 3, 0), 2, 1, 1, true, stands(1));
        ask(x, what(0, 0, 0, 2), 1, 2, 1, true, over(1));
        ask(x, what(0, 0, 3, 0), 1, 2, 5, false, stands(5));
    }

    private static void claimsApart() {
        DUE.sentence("with claims apart.");
        House x = new House().with(1, 0, 700, 1, 300).with(2, 0, 900, 1, 100);
        ask(x, what(0, 0, 0, 0), 1, 2, 1, false, "0.630000");
        ask(x, what(0, 0, 0, 0), 1, 1, 1, false, "0.490000");
        ask(x, what(0, 1, 0, 0), 1, 2, 1, false, "0.700000");
        // Of one book too the claims are apart: over only if both come.
        ask(x, what(0, 1, 0, 0), 1, 1, 1, true, "0.910000");
        ask(x, what(1, 0, 0, 0), 1, 2, 1, true, "0.970000");
    }

    private static void lacksJustThat() {
        DUE.sentence("If just one PURSE is below 0 then, and the other one has at least as much as lacks");
        House x = some();
        // The first lacks 4: the other one has 3, 4 or 5.
        ask(x, what(0, 3, 1, 0), 1, 2, 1, true, "0.500000");
        ask(x, what(0, 4, 1, 0), 1, 2, 1, true, stands(1));
        ask(x, what(0, 5, 1, 0), 1, 2, 1, true, stands(1));
        ask(x, what(3, 0, 0, 1), 2, 1, 1, true, "0.500000");
        ask(x, what(4, 0, 0, 1), 2, 1, 1, true, stands(1));
        ask(x, what(5, 0, 0, 1), 2, 1, 1, true, stands(1));
        // It lacks 12, the most that the other one may have at first.
        ask(x, what(8, 12, 0, 0), 3, 2, 1, true, stands(1));
        ask(x, what(7, 12, 0, 0), 3, 2, 1, true, over(1));
        ask(x, what(12, 8, 0, 0), 2, 3, 1, true, stands(1));
        ask(x, what(12, 7, 0, 0), 2, 3, 1, true, over(1));
        // A purse of just 0 lacks nothing.
        ask(x, what(5, 0, 0, 0), 1, 2, 1, true, stands(1));
        ask(x, what(5, 0, 0, 0), 1, 2, 1, false, stands(1));
    }

    /** What was given isn't there a tick later. */
    private static void thatMuchGoes() {
        DUE.sentence("that much goes from the other one to it.");
        House x = some();
        ask(x, what(0, 10, 0, 0), 1, 2, 2, true, stands(2));
        ask(x, what(0, 10, 0, 0), 1, 2, 3, true, "0.875" + "0".repeat(15));
        ask(x, what(0, 5, 0, 0), 1, 2, 2, true, "0.750000000000");
        ask(x, what(0, 9, 0, 0), 1, 2, 2, true, "0.750000000000");
        ask(x, what(12, 12, 6, 6), 3, 2, 3, true, stands(3));
        ask(x, what(12, 11, 6, 6), 3, 2, 3, true, over(3));
        ask(x, what(11, 12, 6, 6), 2, 3, 3, true, over(3));
    }

    private static void bothBelow() {
        DUE.sentence("If one is below 0 all the same, it is over.");
        House x = some();
        // With both claims both are below 0; with one the other house has nothing, or too little.
        ask(x, what(0, 0, 0, 0), 1, 1, 1, true, "0.250000");
        ask(x, what(2, 2, 0, 0), 1, 1, 1, true, "0.250000");
        // With one claim 1 lacks and the other one has 4; with both it is over.
        ask(x, what(4, 4, 0, 0), 1, 1, 1, true, "0.750000");
        ask(x, what(4, 4, 0, 0), 1, 1, 1, false, "0.250000");
        // With both claims one has just 0, which doesn't help the one that lacks 1.
        ask(x, what(5, 4, 0, 0), 1, 1, 1, true, "0.750000");
        ask(x, what(6, 4, 0, 0), 1, 1, 1, true, stands(1));
        ask(x, what(12, 12, 6, 6), 3, 3, 1, true, over(1));
    }

    private static void overStaysOver() {
        DUE.sentence("STANDING is the chance that it isn't over behind n TICKS");
        House x = new House().with(1, 0, 500, 6, 500).with(2, 0, 1000);
        // 0 + 3 - 6 is over, though 3 more would come; else 3, then 0 or 6, then over or not.
        ask(x, what(0, 0, 3, 0), 1, 2, 1, false, "0.500000");
        ask(x, what(0, 0, 3, 0), 1, 2, 2, false, "0.500000000000");
        ask(x, what(0, 0, 3, 0), 1, 2, 3, false, "0.375" + "0".repeat(15));
        ask(x, what(0, 0, 0, 3), 2, 1, 3, false, "0.375" + "0".repeat(15));
        ask(x, what(0, 0, 3, 0), 1, 2, 3, true, "0.375" + "0".repeat(15));
    }

    private static void withoutHelp() {
        DUE.sentence("two: that help (or don't)");
        House x = some();
        ask(x, what(1, 12, 1, 6), 1, 2, 1, false, "0.500000");
        ask(x, what(1, 12, 1, 6), 1, 2, 1, true, stands(1));
        ask(x, what(12, 1, 6, 1), 2, 1, 1, false, "0.500000");
        ask(x, what(12, 1, 6, 1), 2, 1, 1, true, stands(1));
        ask(x, what(12, 12, 6, 6), 3, 2, 5, false, over(5));
        ask(x, what(12, 12, 6, 6), 2, 3, 5, false, over(5));
    }

    private static void toldWhole() {
        DUE.sentence("told whole (6 n decimals).");
        java.math.BigDecimal each = new java.math.BigDecimal("0.998001");
        for (int n = 1; n <= 5; n++) {
            House x = new House().with(1, 0, 999, 1, 1);
            for (boolean help : new boolean[] {false, true}) {
                ask(x, what(0, 0, 0, 0), 1, 1, n, help, each.pow(n).toPlainString());
                DUE.same("decimals()", x.decimals(), 6 * n);
                DUE.same("the last decimal", x.digit(6 * n), 1);
                DUE.none("one behind it", x.digit(6 * n + 1));
            }
        }
    }

    private static void purseEdges() {
        DUE.sentence("two: PURSES a, b (0 .. 12)");
        for (int a = 0; a <= 12; a++) {
            House x = new House().with(1, a, 1000).with(2, a + 1, 1000).with(3, 0, 1000);
            ask(x, what(a, 0, 0, 0), 1, 3, 1, false, stands(1));
            ask(x, what(a, 0, 0, 0), 2, 3, 1, false, over(1));
            ask(x, what(0, a, 0, 0), 3, 1, 1, false, stands(1));
            ask(x, what(0, a, 0, 0), 3, 2, 1, false, over(1));
        }
    }

    private static void premiumEdges() {
        DUE.sentence("two: PREMIUMS (0 .. 6)");
        for (int p = 0; p <= 6; p++) {
            House x = new House().with(1, p, 1000).with(2, p + 1, 1000).with(3, 0, 1000);
            ask(x, what(0, 0, p, 0), 1, 3, 5, false, stands(5));
            ask(x, what(4, 0, p, 0), 2, 3, 4, false, stands(4));
            ask(x, what(4, 0, p, 0), 2, 3, 5, false, over(5));
            ask(x, what(0, 0, 0, p), 3, 1, 5, false, stands(5));
            ask(x, what(0, 4, 0, p), 3, 2, 4, false, stands(4));
            ask(x, what(0, 4, 0, p), 3, 2, 5, false, over(5));
        }
    }

    private static void tickEdges() {
        DUE.sentence("two: behind n TICKS (1 .. 5)");
        House x = new House().with(1, 1, 1000);
        for (int n = 1; n <= 5; n++) {
            for (boolean help : new boolean[] {false, true}) {
                ask(x, what(n, n, 0, 0), 1, 1, n, help, stands(n));
                ask(x, what(n - 1, n, 0, 0), 1, 1, n, help, over(n));
            }
        }
    }

    private static void whatOutside() {
        DUE.sentence("two: What is a + 16 b + 256 times the first one's PREMIUM + 4096 times the other one's (each below 16).");
        for (int k = 0; k <= 15; k++) {
            for (boolean help : new boolean[] {false, true}) {
                House x = some();
                DUE.same("a " + k, x.two(what(k, 0, 0, 0), 2, 2, 1, help) ? 1 : 0, k <= 12 ? 1 : 0);
                DUE.same("b " + k, x.two(what(0, k, 0, 0), 2, 2, 1, help) ? 1 : 0, k <= 12 ? 1 : 0);
                DUE.same("first PREMIUM " + k, x.two(what(0, 0, k, 0), 2, 2, 1, help) ? 1 : 0, k <= 6 ? 1 : 0);
                DUE.same("other PREMIUM " + k, x.two(what(0, 0, 0, k), 2, 2, 1, help) ? 1 : 0, k <= 6 ? 1 : 0);
                DUE.same("others at their most, a " + k, x.two(what(k, 12, 6, 6), 2, 2, 1, help) ? 1 : 0, k <= 12 ? 1 : 0);
                DUE.same("others at their most, b " + k, x.two(what(12, k, 6, 6), 2, 2, 1, help) ? 1 : 0, k <= 12 ? 1 : 0);
                DUE.same("others at their most, p " + k, x.two(what(12, 12, k, 6), 2, 2, 1, help) ? 1 : 0, k <= 6 ? 1 : 0);
                DUE.same("others at their most, q " + k, x.two(what(12, 12, 6, k), 2, 2, 1, help) ? 1 : 0, k <= 6 ? 1 : 0);
            }
        }
        int[] wrong = {-1, -4096, 65535, 65536, 65536 + what(1, 3, 1, 0), what(1, 3, 1, 0) - 65536, 131072, 1 << 20,
            MIN, MIN + what(1, 3, 1, 0), MAX};
        for (int w : wrong) {
            House x = some();
            DUE.no("two(" + w + ", 2, 2, 1, true)", x.two(w, 2, 2, 1, true));
            DUE.no("two(" + w + ", 2, 2, 1, false)", x.two(w, 2, 2, 1, false));
            DUE.same("no NUMBER yet", x.number(), "0");
        }
    }

    private static void bookEdges() {
        DUE.sentence("two: RIGHT BOOKS");
        for (int book = 0; book <= 7; book++) {
            int other = (book + 3) % 8;
            House x = new House().with(book, 0, 900, 1, 100).with(other, 0, 1000);
            ask(x, 0, book, other, 1, true, "0.900000");
            ask(x, 0, other, book, 1, false, "0.900000");
            x.set(book, 1, 99);
            DUE.no("first with 999", x.two(0, book, other, 1, true));
            DUE.no("second with 999", x.two(0, other, book, 1, true));
            x.set(book, 1, 101);
            DUE.no("first with 1001", x.two(0, book, other, 1, false));
            DUE.no("second with 1001", x.two(0, other, book, 1, false));
            DUE.same("as it was", x.number(), "0.900000");
        }
    }

    private static void outside() {
        DUE.sentence("two: false if that can't be.");
        House x = some();
        x.two(what(1, 3, 1, 0), 1, 2, 1, false);
        for (boolean help : new boolean[] {false, true}) {
            for (int n : new int[] {0, 6, -1, MIN, MAX}) {
                DUE.no("n " + n, x.two(0, 2, 2, n, help));
            }
            for (int book : new int[] {-1, 8, MIN, MAX, 0, 7}) {
                DUE.no("first " + book, x.two(0, book, 2, 1, help));
                DUE.no("second " + book, x.two(0, 2, book, 1, help));
                DUE.no("both " + book, x.two(0, book, book, 1, help));
            }
        }
        DUE.same("as it was", x.number(), "0.500000");
    }

    /** Many purses with two unlike books, against the slow way with both purses apart. */
    private static void manyPurses() {
        DUE.sentence("STANDING of TWO HOUSES");
        int[] row = {0, 600, 1, 100, 3, 200, 7, 60, 20, 40};
        int[] other = {0, 403, 2, 301, 6, 199, 11, 97};
        Slow y = new Slow();
        for (int i = 0; i < row.length; i += 2) y.set(5, row[i], row[i + 1]);
        for (int i = 0; i < other.length; i += 2) y.set(6, other[i], other[i + 1]);
        for (int a = 0; a <= 12; a += 2) {
            for (int b = 0; b <= 12; b += 3) {
                House x = new House().with(5, row).with(6, other);
                for (int n = 1; n <= 5; n++) {
                    int what = what(a, b, (a + b + n) % 7, (a + 2 * b) % 7);
                    boolean help = (a / 2 + n) % 3 != 0;
                    String call = "two(" + what + ", 5, 6, " + n + ", " + help + ")";
                    DUE.same(call, x.two(what, 5, 6, n, help) ? 1 : 0, y.two(what, 5, 6, n, help) ? 1 : 0);
                    for (int i = 0; i <= 6 * n; i++) DUE.same(call + " digit(" + i + ")", x.digit(i), y.digit(i));
                }
            }
        }
    }
}
