import java.math.BigInteger;

/** Promise 11: ever. */
public final class EverTest {
    private static final Due DUE = new Due("EverTest");
    private static final String NEVER = "0." + "0".repeat(30);
    private static final String SURE = "1." + "0".repeat(30);

    public static void main(String[] args) {
        thirds();
        edges();
        allPurses();
        refused();
        DUE.end();
    }

    private static void ask(RuinHouse x, int purse, int book, String due) {
        DUE.yes("ever(" + purse + ", " + book + ")", x.ever(purse, book));
        DUE.same("ever(" + purse + ", " + book + ") NUMBER", Due.number(x), due);
    }

    /** With 750 parts of 0 and 250 of 2 it is a third to the power of the purse and 1. */
    private static void thirds() {
        RuinHouse x = new RuinHouse();
        Due.fill(x, 1, 0, 750, 2, 250);
        for (int purse = 0; purse <= 60; purse++) {
            String cut = BigInteger.TEN.pow(30).divide(BigInteger.valueOf(3).pow(purse + 1)).toString();
            ask(x, purse, 1, "0." + "0".repeat(30 - cut.length()) + cut);
        }
    }

    private static void edges() {
        RuinHouse x = new RuinHouse();
        Due.fill(x, 0, 1, 1000);
        ask(x, 0, 0, NEVER);
        ask(x, 60, 0, NEVER);
        Due.fill(x, 0, 0, 1000);
        ask(x, 0, 0, NEVER);
        ask(x, 60, 0, NEVER);
        Due.fill(x, 0, 0, 1, 1, 999);
        ask(x, 0, 0, NEVER);
        ask(x, 60, 0, NEVER);
        Due.fill(x, 0, 0, 1, 1, 998, 2, 1);
        ask(x, 0, 0, SURE);
        ask(x, 60, 0, SURE);
        Due.fill(x, 0, 0, 950, 20, 50);
        ask(x, 60, 0, SURE);
        Due.fill(x, 0, 20, 1000);
        ask(x, 0, 0, SURE);
        Due.fill(x, 0, 1, 999, 2, 1);
        ask(x, 60, 0, SURE);
    }

    private static void allPurses() {
        int[][] rows = {{0, 951, 20, 49}, {0, 501, 1, 1, 2, 498}, {0, 2, 1, 997, 2, 1},
            {0, 800, 1, 50, 2, 50, 3, 40, 4, 30, 7, 20, 11, 9, 20, 1}, {0, 999, 20, 1}};
        for (int[] row : rows) {
            RuinHouse x = new RuinHouse();
            Slow y = new Slow();
            Due.fill(x, 4, row);
            for (int i = 0; i < row.length; i += 2) y.set(4, row[i], row[i + 1]);
            for (int purse = 0; purse <= 60; purse++) {
                DUE.same("ever", x.ever(purse, 4) ? 1 : 0, y.ever(purse, 4) ? 1 : 0);
                for (int i = 0; i <= 30; i++) DUE.same("ever(" + purse + ") digit(" + i + ")", x.digit(i), y.digit(i));
            }
        }
    }

    private static void refused() {
        RuinHouse x = new RuinHouse();
        Due.fill(x, 1, 0, 750, 2, 250);
        x.set(2, 0, 1);
        x.ever(1, 1);
        String was = Due.number(x);
        DUE.no("ever(-1, 1)", x.ever(-1, 1));
        DUE.no("ever(61, 1)", x.ever(61, 1));
        DUE.no("ever(0, 2)", x.ever(0, 2));
        DUE.no("ever(0, -1)", x.ever(0, -1));
        DUE.no("ever(0, 8)", x.ever(0, 8));
        DUE.no("ever(MAX, MIN)", x.ever(Integer.MAX_VALUE, Integer.MIN_VALUE));
        DUE.same("as it was", Due.number(x), was);
    }
}
