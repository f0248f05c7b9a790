import java.math.BigDecimal;
import java.math.BigInteger;

/** Promise 11 and the terms' part 2: RUIN FOR EVER. */
public final class EverTest {
    private static final Due DUE = new Due("EverTest");
    private static final int MIN = Integer.MIN_VALUE;
    private static final int MAX = Integer.MAX_VALUE;
    private static final String NEVER = "0." + "0".repeat(30);
    private static final String SURE = "1." + "0".repeat(30);

    public static void main(String[] args) {
        thirds();
        cut();
        meanJustBelow();
        meanJustThousand();
        meanAbove();
        allInSizeOne();
        withoutClaimsAboveOne();
        sizesUpToTwenty();
        allPurses();
        thirtyDecimals();
        purseEdges();
        bookEdges();
        outside();
        DUE.end();
    }

    private static void ask(House x, int purse, int book, String due) {
        DUE.yes("ever(" + purse + ", " + book + ")", x.ever(purse, book));
        DUE.same("ever(" + purse + ", " + book + ") NUMBER", x.number(), due);
    }

    /** above by below, with 30 decimals, cut. */
    private static String cutTo30(BigInteger above, BigInteger below) {
        return new BigDecimal(above.multiply(BigInteger.TEN.pow(30)).divide(below), 30).toPlainString();
    }

    private static BigInteger big(long value) {
        return BigInteger.valueOf(value);
    }

    private static void thirds() {
        DUE.sentence("the chance that RUIN never comes from PURSE u is D(u) by F(0) to the power of u + 1");
        for (int purse = 0; purse <= 60; purse++) {
            House x = new House().with(1, 0, 750, 2, 250);
            ask(x, purse, 1, cutTo30(BigInteger.ONE, big(3).pow(purse + 1)));
        }
    }

    private static void cut() {
        DUE.sentence("Of the chance of RUIN 30 decimals are told (cut).");
        House two = new House().with(1, 0, 600, 2, 400);
        ask(two, 0, 1, "0." + "6".repeat(30));
        for (int purse = 0; purse <= 60; purse++) {
            House x = new House().with(1, 0, 600, 2, 400);
            ask(x, purse, 1, cutTo30(big(2).pow(purse + 1), big(3).pow(purse + 1)));
        }
    }

    private static void meanJustBelow() {
        DUE.sentence("if MEAN isn't below 1000, RUIN is sure ..; else ..");
        for (int purse = 0; purse <= 60; purse++) {
            House x = new House().with(1, 0, 2, 1, 997, 2, 1);
            DUE.same("MEAN", x.told(1, 0, 0), 999);
            ask(x, purse, 1, cutTo30(BigInteger.ONE, big(2).pow(purse + 1)));
        }
        House x = new House().with(1, 0, 950, 19, 1, 20, 49);
        DUE.same("MEAN", x.told(1, 0, 0), 999);
        ask(x, 0, 1, cutTo30(big(949), big(950)));
    }

    private static void meanJustThousand() {
        DUE.sentence("if MEAN isn't below 1000, RUIN is sure");
        int[][] rows = {{0, 1, 1, 998, 2, 1}, {0, 950, 20, 50}, {0, 500, 2, 500}, {0, 949, 1, 1, 19, 1, 20, 49}};
        for (int[] row : rows) {
            House x = new House().with(1, row);
            DUE.same("MEAN", x.told(1, 0, 0), 1000);
            for (int purse : new int[] {0, 1, 59, 60}) {
                ask(x, purse, 1, SURE);
            }
        }
    }

    private static void meanAbove() {
        DUE.sentence("if MEAN isn't below 1000, RUIN is sure");
        int[][] rows = {{1, 999, 2, 1}, {20, 1000}, {0, 949, 1, 1, 20, 50}, {2, 1000}, {0, 499, 1, 1, 2, 500}};
        for (int[] row : rows) {
            House x = new House().with(1, row);
            DUE.yes("MEAN above 1000", x.told(1, 0, 0) > 1000);
            for (int purse : new int[] {0, 1, 59, 60}) {
                ask(x, purse, 1, SURE);
            }
        }
    }

    private static void allInSizeOne() {
        DUE.sentence("unless SIZE 1 has all 1000 PARTS (then it never comes)");
        House x = new House().with(1, 1, 1000);
        for (int purse : new int[] {0, 1, 59, 60}) {
            ask(x, purse, 1, NEVER);
        }
        // Behind one that was worked out, and behind a sure one.
        x.with(2, 0, 750, 2, 250).with(3, 2, 1000);
        ask(x, 0, 2, "0." + "3".repeat(30));
        ask(x, 0, 1, NEVER);
        ask(x, 0, 3, SURE);
        ask(x, 0, 1, NEVER);
    }

    private static void withoutClaimsAboveOne() {
        DUE.sentence("D(0) is 1000 less MEAN; D(u + 1) is 1000 D(u) less the sum");
        for (int ones : new int[] {0, 1, 500, 998, 999}) {
            House x = new House().with(1, 0, 1000 - ones, 1, ones);
            for (int purse : new int[] {0, 1, 2, 59, 60}) {
                ask(x, purse, 1, NEVER);
            }
        }
    }

    /** One part in size 20 (or less): up to purse 19 no claim's ruin leaves a purse to begin with. */
    private static void sizesUpToTwenty() {
        DUE.sentence("the sum, for k from 1 to u + 1, of F(k) times D(u + 1 - k) times F(0) to the power of k - 1; "
                + "F(k) being the PARTS of SIZE k (0 above 20)");
        for (int size = 2; size <= 20; size++) {
            BigInteger none = big(1000 - size);
            BigInteger first = big(999).pow(size - 1);
            for (int purse = 0; purse <= size + 1; purse++) {
                BigInteger d = none.multiply(big(1000).pow(purse));
                if (purse == size) d = d.subtract(none.multiply(first));
                if (purse == size + 1) d = d.subtract(none.multiply(first).multiply(big(2000)));
                BigInteger whole = big(999).pow(purse + 1);
                House x = new House().with(1, 0, 999, size, 1);
                ask(x, purse, 1, cutTo30(whole.subtract(d), whole));
            }
        }
    }

    private static void allPurses() {
        DUE.sentence("FOR EVER, with a PREMIUM of 1");
        int[][] rows = {{0, 951, 20, 49}, {0, 950, 19, 1, 20, 49}, {0, 501, 1, 1, 2, 498}, {0, 2, 1, 997, 2, 1},
            {0, 800, 1, 50, 2, 50, 3, 40, 4, 30, 7, 20, 11, 9, 20, 1}, {0, 999, 20, 1}, {0, 999, 2, 1}};
        for (int[] row : rows) {
            Slow y = new Slow();
            for (int i = 0; i < row.length; i += 2) y.set(4, row[i], row[i + 1]);
            for (int purse = 0; purse <= 60; purse++) {
                House x = new House().with(4, row);
                DUE.yes("ever(" + purse + ", 4)", x.ever(purse, 4));
                y.ever(purse, 4);
                for (int i = 0; i <= 30; i++) DUE.same("ever(" + purse + ") digit(" + i + ")", x.digit(i), y.digit(i));
            }
        }
    }

    private static void thirtyDecimals() {
        DUE.sentence("Of the chance of RUIN 30 decimals are told");
        int[][] rows = {{1, 1000}, {2, 1000}, {0, 1000}, {0, 750, 2, 250}};
        for (int[] row : rows) {
            House x = new House().with(1, row).with(2, 0, 999, 1, 1);
            DUE.yes("ruin(0, 0, 2, 40)", x.ruin(0, 0, 2, 40));
            DUE.yes("ever(0, 1)", x.ever(0, 1));
            DUE.same("decimals()", x.decimals(), 30);
            DUE.yes("digit(30)", x.digit(30) >= 0);
            DUE.none("digit(31)", x.digit(31));
        }
    }

    private static void purseEdges() {
        DUE.sentence("ever: from a PURSE (0 .. 60)");
        House x = new House().with(1, 0, 750, 2, 250);
        String was = "0." + "1".repeat(30);
        ask(x, 1, 1, was);
        for (int purse : new int[] {-1, 61, -60, 100, MIN, MAX}) {
            DUE.no("ever(" + purse + ", 1)", x.ever(purse, 1));
            DUE.same("as it was", x.number(), was);
        }
        ask(x, 0, 1, "0." + "3".repeat(30));
        DUE.yes("ever(60, 1)", x.ever(60, 1));
        // 3 to the power of 61 has 30 digits: the chance begins at decimal 30.
        DUE.same("ever(60, 1) NUMBER", x.number(), "0." + "0".repeat(29) + "7");
    }

    private static void bookEdges() {
        DUE.sentence("ever: with a RIGHT BOOK");
        for (int book = 0; book <= 7; book++) {
            House x = new House().with(book, 0, 750, 2, 250);
            ask(x, 0, book, "0." + "3".repeat(30));
            x.set(book, 2, 249);
            DUE.no("with 999", x.ever(1, book));
            x.set(book, 2, 251);
            DUE.no("with 1001", x.ever(1, book));
            DUE.same("as it was", x.number(), "0." + "3".repeat(30));
        }
    }

    private static void outside() {
        DUE.sentence("ever: false if that can't be.");
        House x = new House().with(1, 0, 750, 2, 250);
        for (int book : new int[] {-1, 8, MIN, MAX, 0, 7}) {
            DUE.no("ever(0, " + book + ")", x.ever(0, book));
        }
        DUE.same("no NUMBER yet", x.number(), "0");
    }
}
