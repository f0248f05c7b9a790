import java.math.BigDecimal;

/** Promises 8, 9 and 10, and the terms' part 2: RUIN within n TICKS, when it comes and how deep. */
public final class RuinTest {
    private static final Due DUE = new Due("RuinTest");
    private static final int MIN = Integer.MIN_VALUE;
    private static final int MAX = Integer.MAX_VALUE;

    public static void main(String[] args) {
        byHand();
        claimsByParts();
        premiumThenClaim();
        belowNought();
        nothingBehindRuin();
        toldWhole();
        sure();
        purseEdges();
        premiumEdges();
        tickEdges();
        bookEdges();
        outside();
        sumsAgree();
        mostPurses();
        wideEdges();
        DUE.end();
    }

    private static House some() {
        return new House().with(0, 0, 700, 3, 200, 5, 100);
    }

    private static void ask(House x, int purse, int premium, int book, int n, String number) {
        String call = "ruin(" + purse + ", " + premium + ", " + book + ", " + n + ")";
        DUE.yes(call, x.ruin(purse, premium, book, n));
        DUE.same(call + " NUMBER", x.number(), number);
    }

    private static String never(int n) {
        return "0." + "000".repeat(n);
    }

    private static String surely(int n) {
        return "1." + "000".repeat(n);
    }

    private static void byHand() {
        DUE.sentence("ruin: RUIN within n TICKS: the NUMBER is its chance: true");
        House x = some();
        ask(x, 1, 1, 0, 1, "0.300");
        DUE.same("at(1)", x.atText(1, 3), "300");
        DUE.same("deep(1)", x.deepText(1, 3), "200");
        DUE.same("deep(2)", x.deepText(2, 3), "000");
        DUE.same("deep(3)", x.deepText(3, 3), "100");
        ask(x, 1, 1, 0, 2, "0.370000");
        DUE.same("at(1)", x.atText(1, 6), "300000");
        DUE.same("at(2)", x.atText(2, 6), "070000");
        DUE.same("deep(1)", x.deepText(1, 6), "200000");
        DUE.same("deep(2)", x.deepText(2, 6), "070000");
        DUE.same("deep(3)", x.deepText(3, 6), "100000");
        DUE.same("deep(20)", x.deepText(20, 6), "000000");
    }

    /** Each size alone: one part of a thousand, twice in a row a millionth. */
    private static void claimsByParts() {
        DUE.sentence("In each TICK a claim comes, of a SIZE with a chance of its PARTS of 1000, whatever came ahead.");
        for (int size = 1; size <= 20; size++) {
            House x = new House().with(0, 0, 999, size, 1);
            ask(x, 0, size - 1, 0, 1, "0.001");
            DUE.same("deep(1)", x.deepText(1, 3), "001");
            ask(x, size, 0, 0, 2, "0.000001");
            DUE.same("deep(" + size + ")", x.deepText(size, 6), "000001");
            ask(x, size - 1, 0, 0, 2, "0.001999");
            DUE.same("at(2)", x.atText(2, 6), "000999");
        }
    }

    private static void premiumThenClaim() {
        DUE.sentence("a PREMIUM comes each TICK, then its claim goes.");
        for (int size = 1; size <= 20; size++) {
            House x = new House().with(0, size, 1000);
            ask(x, 0, size, 0, 40, never(40));
            ask(x, 0, size - 1, 0, 1, surely(1));
        }
    }

    private static void belowNought() {
        DUE.sentence("RUIN is a PURSE below 0 behind a TICK");
        House x = new House().with(0, 1, 1000).with(1, 0, 1, 1, 999);
        ask(x, 40, 0, 0, 40, never(40));
        ask(x, 39, 0, 0, 40, surely(40));
        House y = new House().with(1, 0, 1, 1, 999);
        BigDecimal all = new BigDecimal("0.999").pow(40);
        ask(y, 39, 0, 1, 40, all.toPlainString());
        DUE.same("at(40)", "0." + y.atText(40, 120), all.toPlainString());
        DUE.same("deep(1)", "0." + y.deepText(1, 120), all.toPlainString());
    }

    /** From -5 a premium and a claim would end below 0 again, or a premium alone at 0. */
    private static void nothingBehindRuin() {
        DUE.sentence("nothing comes behind that.");
        House x = new House().with(0, 0, 500, 10, 500);
        ask(x, 0, 5, 0, 2, "0.500000");
        DUE.same("at(1)", x.atText(1, 6), "500000");
        DUE.same("at(2)", x.atText(2, 6), "000000");
        DUE.same("deep(5)", x.deepText(5, 6), "500000");
        DUE.same("deep(10)", x.deepText(10, 6), "000000");
        ask(x, 0, 5, 0, 3, "0.625000000");
        DUE.same("at(3)", x.atText(3, 9), "125000000");
        DUE.same("deep(5)", x.deepText(5, 9), "625000000");
    }

    private static void toldWhole() {
        DUE.sentence("CHANCES within n TICKS are told whole: 3 n decimals.");
        BigDecimal stays = new BigDecimal("0.999");
        for (int n = 1; n <= 40; n++) {
            House x = new House().with(3, 0, 999, 1, 1);
            String chance = BigDecimal.ONE.subtract(stays.pow(n)).toPlainString();
            ask(x, 0, 0, 3, n, chance);
            DUE.same("decimals()", x.decimals(), 3 * n);
            DUE.none("digit behind the last", x.digit(3 * n + 1));
            DUE.same("deep(1)", "0." + x.deepText(1, 3 * n), chance);
        }
        for (int t = 1; t <= 40; t++) {
            House x = new House().with(3, 0, 999, 1, 1);
            x.ruin(0, 0, 3, 40);
            String due = stays.pow(t - 1).multiply(new BigDecimal("0.001")).setScale(120).toPlainString();
            DUE.same("at(" + t + ")", "0." + x.atText(t, 120), due);
        }
    }

    /** Read plainly: at() and deep() tell decimals alone, so those of a chance of 1 are noughts. */
    private static void sure() {
        DUE.sentence("at: Decimal i (1 .. 3 n) of the chance; deep: Decimal i (1 .. 3 n) of the chance");
        House x = new House().with(7, 20, 1000);
        ask(x, 0, 0, 7, 1, surely(1));
        DUE.same("at(1)", x.atText(1, 3), "000");
        DUE.same("deep(20)", x.deepText(20, 3), "000");
        ask(x, 0, 0, 7, 40, surely(40));
        DUE.same("at(1)", x.atText(1, 120), "0".repeat(120));
        DUE.same("deep(20)", x.deepText(20, 120), "0".repeat(120));
    }

    private static void purseEdges() {
        DUE.sentence("ruin: from a PURSE (0 .. 100)");
        House x = new House().with(7, 20, 1000);
        ask(x, 0, 20, 7, 1, never(1));
        ask(x, 0, 19, 7, 1, surely(1));
        ask(x, 1, 19, 7, 1, never(1));
        ask(x, 100, 0, 7, 5, never(5));
        ask(x, 99, 0, 7, 5, surely(5));
        ask(x, 100, 0, 7, 6, surely(6));
        ask(x, 100, 10, 7, 10, never(10));
        ask(x, 99, 10, 7, 10, surely(10));
        ask(x, 100, 10, 7, 11, surely(11));
    }

    private static void premiumEdges() {
        DUE.sentence("ruin: with a PREMIUM (0 .. 20)");
        House x = new House().with(7, 0, 999, 20, 1);
        ask(x, 0, 0, 7, 2, "0.001999");
        ask(x, 0, 19, 7, 2, "0.001000");
        ask(x, 0, 20, 7, 2, never(2));
        ask(x, 0, 20, 7, 40, never(40));
        ask(x, 100, 20, 7, 40, never(40));
    }

    private static void tickEdges() {
        DUE.sentence("ruin: within n TICKS (1 .. 40)");
        House x = new House().with(7, 0, 999, 20, 1);
        ask(x, 100, 0, 7, 1, never(1));
        ask(x, 0, 0, 7, 1, "0.001");
        DUE.yes("ruin(0, 0, 7, 40)", x.ruin(0, 0, 7, 40));
        DUE.same("decimals()", x.decimals(), 120);
        DUE.same("digit(120)", x.digit(120), 9);
    }

    private static void bookEdges() {
        DUE.sentence("ruin: and a RIGHT BOOK");
        for (int book = 0; book <= 7; book++) {
            House x = new House().with(book, 0, 900, 1, 100);
            ask(x, 0, 0, book, 1, "0.100");
            x.set(book, 1, 99);
            DUE.no("with 999", x.ruin(0, 0, book, 1));
            x.set(book, 1, 101);
            DUE.no("with 1001", x.ruin(0, 0, book, 1));
            DUE.same("as it was", x.number(), "0.100");
        }
    }

    private static void outside() {
        DUE.sentence("ruin: false if that can't be.");
        int[][] wrong = {{-1, 1, 0, 2}, {101, 1, 0, 2}, {1, -1, 0, 2}, {1, 21, 0, 2}, {1, 1, -1, 2}, {1, 1, 8, 2},
            {1, 1, 1, 2}, {1, 1, 0, 0}, {1, 1, 0, 41}, {1, 1, 0, -1}, {MIN, 1, 0, 2}, {MAX, 1, 0, 2}, {1, MIN, 0, 2},
            {1, MAX, 0, 2}, {1, 1, MIN, 2}, {1, 1, MAX, 2}, {1, 1, 0, MIN}, {1, 1, 0, MAX}};
        for (int[] w : wrong) {
            House x = some();
            x.ruin(1, 1, 0, 2);
            DUE.no("ruin" + java.util.Arrays.toString(w), x.ruin(w[0], w[1], w[2], w[3]));
            DUE.same("the chance as it was", x.number(), "0.370000");
            DUE.same("at(2) as it was", x.atText(2, 6), "070000");
            DUE.same("deep(2) as it was", x.deepText(2, 6), "070000");
        }
    }

    private static BigDecimal decimals(String text) {
        return new BigDecimal("0." + text);
    }

    private static void sumsAgree() {
        DUE.sentence("deep: the chance that the PURSE is k below 0 when RUIN comes, within all its TICKS");
        House x = new House().with(2, 0, 611, 1, 103, 4, 97, 9, 83, 17, 61, 20, 45);
        x.ruin(3, 1, 2, 5);
        BigDecimal ticks = BigDecimal.ZERO;
        BigDecimal depths = BigDecimal.ZERO;
        for (int t = 1; t <= 5; t++) ticks = ticks.add(decimals(x.atText(t, 15)));
        for (int k = 1; k <= 20; k++) depths = depths.add(decimals(x.deepText(k, 15)));
        String number = x.number();
        DUE.same("all TICKS together", ticks.toPlainString(), number);
        DUE.same("all depths together", depths.toPlainString(), number);
    }

    private static int flat(int size) {
        return size < 13 ? 48 : 47;
    }

    /** The most purses that are at stake at one time, compared with the slow way. */
    private static void mostPurses() {
        DUE.sentence("ruin: n TICKS (1 .. 40) from a PURSE (0 .. 100), with a PREMIUM (0 .. 20)");
        for (int premium = 7; premium <= 11; premium++) {
            House x = new House();
            Slow y = new Slow();
            for (int size = 0; size <= 20; size++) {
                x.set(0, size, flat(size));
                y.set(0, size, flat(size));
            }
            compare(x, y, new int[] {100, premium, 0, 40});
        }
    }

    private static void wideEdges() {
        DUE.sentence("ruin: n TICKS (1 .. 40) from a PURSE (0 .. 100), with a PREMIUM (0 .. 20)");
        int[][] calls = {{0, 0, 4, 40}, {0, 1, 4, 40}, {0, 19, 4, 40}, {0, 20, 4, 40}, {100, 0, 4, 40}, {99, 9, 4, 40},
            {100, 1, 4, 40}, {100, 19, 4, 40}, {100, 20, 4, 40}, {100, 0, 4, 39}, {1, 2, 4, 39}, {0, 0, 4, 1}, {2, 0, 4, 1}};
        int[] row = {0, 403, 1, 99, 2, 71, 5, 201, 11, 103, 19, 100, 20, 23};
        for (int[] c : calls) {
            House x = new House().with(4, row);
            Slow y = new Slow();
            for (int i = 0; i < row.length; i += 2) y.set(4, row[i], row[i + 1]);
            compare(x, y, c);
        }
    }

    private static void compare(House x, Slow y, int[] c) {
        String call = "ruin" + java.util.Arrays.toString(c);
        DUE.yes(call, x.ruin(c[0], c[1], c[2], c[3]));
        y.ruin(c[0], c[1], c[2], c[3]);
        int depth = 1 + c[1] % 20;
        for (int i = 0; i <= 3 * c[3] + 1; i++) {
            DUE.same(call + " digit(" + i + ")", x.digit(i), y.digit(i));
            DUE.same(call + " at(n, " + i + ")", x.at(c[3], i), y.at(c[3], i));
            DUE.same(call + " deep(" + depth + ", " + i + ")", x.deep(depth, i), y.deep(depth, i));
        }
    }
}
