import java.math.BigDecimal;

/** Promises 8, 9, 10 and 16: ruin, at, deep, just. */
public final class RuinTest {
    private static final Due DUE = new Due("RuinTest");

    public static void main(String[] args) {
        ordinary();
        rare();
        sure();
        refused();
        whatStays();
        deepMost();
        just();
        DUE.end();
    }

    private static void ordinary() {
        RuinHouse x = new RuinHouse();
        Due.fill(x, 0, 0, 700, 3, 200, 5, 100);
        DUE.yes("ruin(1, 1, 0, 1)", x.ruin(1, 1, 0, 1));
        DUE.same("the chance", Due.number(x), "0.300");
        DUE.same("at(1)", Due.at(x, 1, 3), "300");
        DUE.same("deep(1)", Due.deep(x, 1, 3), "200");
        DUE.same("deep(2)", Due.deep(x, 2, 3), "000");
        DUE.same("deep(3)", Due.deep(x, 3, 3), "100");
        DUE.yes("ruin(1, 1, 0, 2)", x.ruin(1, 1, 0, 2));
        DUE.same("the chance", Due.number(x), "0.370000");
        DUE.same("at(1)", Due.at(x, 1, 6), "300000");
        DUE.same("at(2)", Due.at(x, 2, 6), "070000");
        DUE.same("deep(1)", Due.deep(x, 1, 6), "200000");
        DUE.same("deep(2)", Due.deep(x, 2, 6), "070000");
        DUE.same("deep(3)", Due.deep(x, 3, 6), "100000");
        DUE.same("deep(20)", Due.deep(x, 20, 6), "000000");
    }

    /** One claim of 1 in a thousand, forty times: all 120 decimals. */
    private static void rare() {
        RuinHouse x = new RuinHouse();
        Due.fill(x, 3, 0, 999, 1, 1);
        DUE.yes("ruin(0, 0, 3, 40)", x.ruin(0, 0, 3, 40));
        BigDecimal stays = new BigDecimal("0.999");
        DUE.same("the chance", Due.number(x), BigDecimal.ONE.subtract(stays.pow(40)).toPlainString());
        DUE.same("deep(1)", "0." + Due.deep(x, 1, 120), Due.number(x));
        for (int t = 1; t <= 40; t++) {
            String due = stays.pow(t - 1).multiply(new BigDecimal("0.001")).setScale(120).toPlainString();
            DUE.same("at(" + t + ")", "0." + Due.at(x, t, 120), due);
        }
    }

    private static void sure() {
        RuinHouse x = new RuinHouse();
        Due.fill(x, 7, 20, 1000);
        DUE.yes("ruin(0, 0, 7, 40)", x.ruin(0, 0, 7, 40));
        DUE.same("the chance", Due.number(x), "1." + "0".repeat(120));
        DUE.same("at(1, 1)", x.at(1, 1), 0);
        DUE.same("deep(20, 120)", x.deep(20, 120), 0);
        DUE.yes("ruin(100, 20, 7, 40)", x.ruin(100, 20, 7, 40));
        DUE.same("the chance", Due.number(x), "0." + "0".repeat(120));
        DUE.yes("ruin(100, 0, 7, 5)", x.ruin(100, 0, 7, 5));
        DUE.same("just not yet", Due.number(x), "0." + "0".repeat(15));
        DUE.yes("ruin(100, 0, 7, 6)", x.ruin(100, 0, 7, 6));
        DUE.same("now", Due.number(x), "1." + "0".repeat(18));
        DUE.yes("ruin(100, 10, 7, 10)", x.ruin(100, 10, 7, 10));
        DUE.same("just not yet", x.digit(0), 0);
        DUE.yes("ruin(100, 10, 7, 11)", x.ruin(100, 10, 7, 11));
        DUE.same("now", x.digit(0), 1);
    }

    private static void refused() {
        RuinHouse x = new RuinHouse();
        Due.fill(x, 0, 0, 700, 3, 200, 5, 100);
        x.set(1, 0, 999);
        x.ruin(1, 1, 0, 2);
        int[][] wrong = {{-1, 1, 0, 2}, {101, 1, 0, 2}, {1, -1, 0, 2}, {1, 21, 0, 2}, {1, 1, -1, 2}, {1, 1, 8, 2},
            {1, 1, 1, 2}, {1, 1, 0, 0}, {1, 1, 0, 41}, {1, 1, 0, -1}, {Integer.MIN_VALUE, 1, 0, 2},
            {1, Integer.MAX_VALUE, 0, 2}, {1, 1, Integer.MIN_VALUE, 2}, {1, 1, 0, Integer.MAX_VALUE}};
        for (int[] w : wrong) {
            DUE.no("ruin" + java.util.Arrays.toString(w), x.ruin(w[0], w[1], w[2], w[3]));
        }
        DUE.same("the chance as it was", Due.number(x), "0.370000");
        int[][] none = {{0, 1}, {3, 1}, {-1, 1}, {1, 0}, {1, 7}, {1, -1}, {Integer.MAX_VALUE, 1}, {1, Integer.MIN_VALUE}};
        for (int[] w : none) {
            DUE.same("at" + java.util.Arrays.toString(w), x.at(w[0], w[1]), -1);
        }
        int[][] nowhere = {{0, 1}, {21, 1}, {-1, 1}, {1, 0}, {1, 7}, {1, -1}, {Integer.MAX_VALUE, 1}, {1, Integer.MIN_VALUE}};
        for (int[] w : nowhere) {
            DUE.same("deep" + java.util.Arrays.toString(w), x.deep(w[0], w[1]), -1);
        }
    }

    /** at() and deep() stay the latest ruin()'s, whatever comes behind it. */
    private static void whatStays() {
        RuinHouse x = new RuinHouse();
        Due.fill(x, 0, 0, 700, 3, 200, 5, 100);
        Due.fill(x, 1, 0, 750, 2, 250);
        x.ruin(1, 1, 0, 2);
        x.ever(3, 1);
        x.worth(9, 1, 1, 900, 3);
        x.two(0, 0, 1, 5, true);
        x.two(0, 0, 1, 5, false);
        x.just(0, 1, 12, 0);
        Due.fill(x, 0, 0, 1000);
        DUE.same("at(2)", Due.at(x, 2, 6), "070000");
        DUE.same("at(3, 1)", x.at(3, 1), -1);
        DUE.same("deep(3)", Due.deep(x, 3, 6), "100000");
        x.ruin(0, 0, 0, 1);
        DUE.same("at(1) of a shorter one", Due.at(x, 1, 3), "000");
        DUE.same("deep(3) of a shorter one", Due.deep(x, 3, 3), "000");
        DUE.same("at(2, 1) of a shorter one", x.at(2, 1), -1);
    }

    /** The most purses that are at stake at one time, compared with the slow way. */
    private static void deepMost() {
        RuinHouse x = new RuinHouse();
        Slow y = new Slow();
        for (int size = 0; size <= 20; size++) {
            x.set(0, size, size < 13 ? 48 : 47);
            y.set(0, size, size < 13 ? 48 : 47);
        }
        for (int premium = 7; premium <= 11; premium++) {
            x.ruin(100, premium, 0, 40);
            y.ruin(100, premium, 0, 40);
            for (int i = 0; i <= 120; i++) {
                DUE.same("digit(" + i + ") with premium " + premium, x.digit(i), y.digit(i));
                DUE.same("at(40, " + i + ") with premium " + premium, x.at(40, i), y.at(40, i));
                DUE.same("deep(11, " + i + ") with premium " + premium, x.deep(11, i), y.deep(11, i));
            }
        }
    }

    private static void just() {
        RuinHouse x = new RuinHouse();
        Due.fill(x, 0, 0, 700, 3, 200, 5, 100);
        Due.fill(x, 7, 20, 1000);
        x.ruin(1, 1, 0, 1);
        DUE.same("just .3", x.just(0, 0, 1, 300000), 0);
        DUE.same("just below .3", x.just(0, 0, 1, 299999), 3);
        DUE.same("just .1", x.just(0, 0, 1, 100000), 3);
        DUE.same("just below .1", x.just(0, 0, 1, 99999), 5);
        DUE.same("never", x.just(0, 0, 1, 0), 5);
        DUE.same("never, 12 ticks", x.just(0, 0, 12, 0), 5);
        DUE.same("all", x.just(0, 0, 12, 1000000), 0);
        DUE.same("never with claims of 20", x.just(0, 7, 12, 0), 20);
        DUE.same("never with claims of 20", x.just(0, 7, 1, 999999), 20);
        DUE.same("all with claims of 20", x.just(0, 7, 12, 1000000), 0);
        DUE.same("from a purse of 100", x.just(100, 7, 12, 0), 12);
        DUE.same("from a purse of 100", x.just(100, 7, 1, 0), 0);
        x.set(1, 0, 1);
        int[][] wrong = {{-1, 0, 1, 0}, {101, 0, 1, 0}, {0, -1, 1, 0}, {0, 8, 1, 0}, {0, 1, 1, 0}, {0, 0, 0, 0},
            {0, 0, 13, 0}, {0, 0, 1, -1}, {0, 0, 1, 1000001}, {Integer.MAX_VALUE, 0, 1, 0}, {0, Integer.MIN_VALUE, 1, 0},
            {0, 0, Integer.MIN_VALUE, 0}, {0, 0, 1, Integer.MAX_VALUE}};
        for (int[] w : wrong) {
            DUE.same("just" + java.util.Arrays.toString(w), x.just(w[0], w[1], w[2], w[3]), -1);
        }
        DUE.same("the NUMBER as it was", Due.number(x), "0.300");
        DUE.same("at as it was", Due.at(x, 1, 3), "300");
    }
}
