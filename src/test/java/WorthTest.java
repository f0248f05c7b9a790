import java.math.BigDecimal;

/** Promise 12 and the terms' part 3: PAYING OUT. */
public final class WorthTest {
    private static final Due DUE = new Due("WorthTest");
    private static final int MIN = Integer.MIN_VALUE;
    private static final int MAX = Integer.MAX_VALUE;

    public static void main(String[] args) {
        noTickLeft();
        payThenTick();
        keepCounts();
        nothingBehindRuin();
        leastPayment();
        toldWhole();
        purseEdges();
        premiumEdges();
        keepEdges();
        tickEdges();
        bookEdges();
        outside();
        allPurses();
        DUE.end();
    }

    private static House some() {
        return new House().with(1, 0, 750, 2, 250).with(7, 0, 1000).with(2, 20, 1000);
    }

    private static void ask(House x, int[] in, int payment, String number) {
        String call = "worth" + java.util.Arrays.toString(in);
        DUE.same(call, x.worth(in[0], in[1], in[2], in[3], in[4]), payment);
        DUE.same(call + " NUMBER", x.number(), number);
    }

    private static int[] in(int purse, int premium, int book, int keep, int n) {
        return new int[] {purse, premium, book, keep, n};
    }

    private static void noTickLeft() {
        DUE.sentence("with no TICK left a PURSE u is worth u (all of it is the PAYMENT).");
        for (int purse = 0; purse <= 60; purse++) {
            House x = some();
            ask(x, in(purse, 0, 1, 1000, 0), purse, Integer.toString(purse));
            ask(x, in(purse, 20, 2, 0, 0), purse, Integer.toString(purse));
            DUE.same("decimals()", x.decimals(), 0);
            DUE.none("digit(1)", x.digit(1));
        }
    }

    private static void payThenTick() {
        DUE.sentence("some of it is paid out (0 .. u); then comes a TICK");
        House x = some();
        // Keeping 1: 0.75 * 2 + 0.25 * 0 = 1.5; paying it: 1 + 0.75 * 1, as a claim of 2 ruins.
        ask(x, in(1, 1, 1, 1000, 1), 1, "1.750000");
        // Two ticks from 1: keeping it 0.75 * V(2) + 0.25 * V(0) = 0.75 * 2.75 + 0.25 * 0.75;
        // paying it 1 + 0.75 * V(1) = 1 + 0.75 * 1.75.
        ask(x, in(1, 1, 1, 1000, 2), 1, "2.312500000000");
        // Nothing can be paid: 0.75 * 1.
        ask(x, in(0, 1, 1, 1000, 1), 0, "0.750000");
    }

    private static void keepCounts() {
        DUE.sentence("what it is worth then, t - 1 being left (..), counts KEEP of 1000 of it.");
        House x = some();
        ask(x, in(2, 1, 1, 900, 1), 2, "2.675000");
        ask(x, in(2, 1, 1, 0, 1), 2, "2.000000");
        // A purse of 0 and a premium of 20 each tick, of which a half, a quarter, an eighth count.
        ask(x, in(0, 20, 7, 500, 3), 0, "17." + "5" + "0".repeat(17));
        ask(x, in(1, 0, 7, 999, 1), 1, "1.000000");
    }

    private static void nothingBehindRuin() {
        DUE.sentence("(nothing behind RUIN)");
        House x = some();
        ask(x, in(60, 0, 2, 1000, 6), 60, "60." + "0".repeat(36));
        ask(x, in(0, 19, 2, 1000, 6), 0, "0." + "0".repeat(36));
        // A premium of 19 and a claim of 20: what is kept loses 1.
        ask(x, in(10, 19, 2, 1000, 1), 10, "10.000000");
        ask(x, in(10, 20, 2, 1000, 1), 0, "10.000000");
    }

    private static void leastPayment() {
        DUE.sentence("the PAYMENT is the least first one by which it is so.");
        House x = new House().with(7, 0, 1000);
        for (int n = 1; n <= 6; n++) {
            // Whatever is paid, it is worth the same.
            ask(x, in(60, 0, 7, 1000, n), 0, "60." + "000000".repeat(n));
        }
        // With one tick left a purse u is worth u + 1.2. Two ticks ahead: keeping 0 is worth
        // 0.4 * 4.2 = 1.68, keeping 1 0.4 * 5.2 + 0.5 * 1.2 = 2.68, keeping 2 3.58, keeping 3 4.48.
        House y = new House().with(3, 0, 400, 4, 500, 8, 100);
        ask(y, in(3, 3, 3, 1000, 2), 2, "4.680000000000");
        ask(y, in(2, 3, 3, 1000, 2), 1, "3.680000000000");
        ask(y, in(1, 3, 3, 1000, 2), 0, "2.680000000000");
        ask(y, in(0, 3, 3, 1000, 2), 0, "1.680000000000");
    }

    private static void toldWhole() {
        DUE.sentence("told whole (6 t decimals)");
        BigDecimal factor = new BigDecimal("0.998001");
        BigDecimal due = BigDecimal.ZERO;
        for (int n = 1; n <= 6; n++) {
            // A claim of 20 ruins, so nothing is kept, and it is worth 1 + the same with a tick less.
            due = due.add(BigDecimal.ONE).multiply(factor);
            House x = new House().with(3, 0, 999, 20, 1);
            ask(x, in(0, 1, 3, 999, n), 0, due.toPlainString());
            DUE.same("decimals()", x.decimals(), 6 * n);
            DUE.same("the last decimal", x.digit(6 * n), 1);
            DUE.none("one behind it", x.digit(6 * n + 1));
        }
    }

    private static void purseEdges() {
        DUE.sentence("worth: WORTH of a PURSE (0 .. 60)");
        House x = some();
        ask(x, in(0, 0, 7, 1000, 1), 0, "0.000000");
        ask(x, in(60, 0, 7, 999, 1), 60, "60.000000");
        ask(x, in(59, 0, 7, 999, 1), 59, "59.000000");
    }

    private static void premiumEdges() {
        DUE.sentence("worth: PREMIUM (0 .. 20)");
        House x = some();
        ask(x, in(60, 20, 7, 1000, 6), 0, "180." + "0".repeat(36));
        ask(x, in(60, 19, 7, 1000, 6), 0, "174." + "0".repeat(36));
        ask(x, in(60, 0, 7, 1000, 6), 0, "60." + "0".repeat(36));
        ask(x, in(0, 20, 2, 1000, 6), 0, "0." + "0".repeat(36));
    }

    private static void keepEdges() {
        DUE.sentence("worth: KEEP (0 .. 1000)");
        House x = some();
        ask(x, in(60, 20, 7, 0, 6), 60, "60." + "0".repeat(36));
        ask(x, in(0, 20, 7, 0, 1), 0, "0.000000");
        ask(x, in(0, 20, 7, 1, 1), 0, "0.020000");
        ask(x, in(0, 20, 7, 999, 1), 0, "19.980000");
        ask(x, in(0, 20, 7, 1000, 1), 0, "20.000000");
    }

    private static void tickEdges() {
        DUE.sentence("worth: with n TICKS left (0 .. 6)");
        House x = some();
        for (int n = 0; n <= 6; n++) {
            DUE.same("worth(1, 20, 7, 1000, " + n + ")", x.worth(1, 20, 7, 1000, n), n == 0 ? 1 : 0);
            DUE.same("digit(0)", x.digit(0), 1 + 20 * n);
            DUE.same("decimals()", x.decimals(), 6 * n);
        }
    }

    private static void bookEdges() {
        DUE.sentence("worth: a RIGHT BOOK");
        for (int book = 0; book <= 7; book++) {
            for (int n = 0; n <= 1; n++) {
                House x = new House().with(book, 0, 1000);
                DUE.same("book " + book, x.worth(5, 0, book, 999, n), 5);
                x.set(book, 0, 999);
                DUE.none("with 999", x.worth(6, 0, book, 999, n));
                x.set(book, 1, 2);
                DUE.none("with 1001", x.worth(6, 0, book, 999, n));
                DUE.same("as it was", x.number(), n == 0 ? "5" : "5.000000");
            }
        }
    }

    private static void outside() {
        DUE.sentence("worth: NONE if that can't be.");
        int[][] wrong = {{-1, 1, 1, 900, 1}, {61, 1, 1, 900, 1}, {2, -1, 1, 900, 1}, {2, 21, 1, 900, 1},
            {2, 1, -1, 900, 1}, {2, 1, 8, 900, 1}, {2, 1, 3, 900, 1}, {2, 1, 1, -1, 1}, {2, 1, 1, 1001, 1},
            {2, 1, 1, 900, -1}, {2, 1, 1, 900, 7}, {-1, 1, 1, 900, 0}, {61, 1, 1, 900, 0}, {2, 21, 1, 900, 0},
            {2, -1, 1, 900, 0}, {2, 1, 3, 900, 0}, {2, 1, 8, 900, 0}, {2, 1, 1, 1001, 0}, {2, 1, 1, -1, 0},
            {MIN, 1, 1, 900, 1}, {MAX, 1, 1, 900, 1}, {2, MIN, 1, 900, 1}, {2, MAX, 1, 900, 1}, {2, 1, MIN, 900, 1},
            {2, 1, MAX, 900, 1}, {2, 1, 1, MIN, 1}, {2, 1, 1, MAX, 1}, {2, 1, 1, 900, MIN}, {2, 1, 1, 900, MAX}};
        for (int[] w : wrong) {
            House x = some();
            x.worth(2, 1, 1, 900, 1);
            DUE.none("worth" + java.util.Arrays.toString(w), x.worth(w[0], w[1], w[2], w[3], w[4]));
            DUE.same("as it was", x.number(), "2.675000");
        }
    }

    /** Every purse and count of ticks, with payments of none, some and all. */
    private static void allPurses() {
        DUE.sentence("The WORTH is the most that can be so, in the mean");
        int[][] rows = {{0, 600, 1, 100, 3, 200, 7, 60, 12, 40}, {0, 400, 4, 500, 8, 100}, {0, 900, 20, 100}};
        int[][] rates = {{3, 985}, {3, 1000}, {20, 997}};
        int some = 0;
        for (int k = 0; k < rows.length; k++) {
            Slow y = new Slow();
            for (int i = 0; i < rows[k].length; i += 2) y.set(5, rows[k][i], rows[k][i + 1]);
            for (int purse = 0; purse <= 60; purse++) {
                House x = new House().with(5, rows[k]);
                for (int n = 0; n <= 6; n++) {
                    String call = "worth(" + purse + ", " + rates[k][0] + ", 5, " + rates[k][1] + ", " + n + ")";
                    int due = y.worth(purse, rates[k][0], 5, rates[k][1], n);
                    some += due > 0 && due < purse ? 1 : 0;
                    DUE.same(call, x.worth(purse, rates[k][0], 5, rates[k][1], n), due);
                    DUE.same(call + " decimals()", x.decimals(), 6 * n);
                    for (int i = 0; i <= 6 * n; i++) DUE.same(call + " digit(" + i + ")", x.digit(i), y.digit(i));
                }
            }
        }
        DUE.yes("some payments lie between none and all", some > 20);
    }
}
