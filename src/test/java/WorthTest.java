/** Promise 12: worth. */
public final class WorthTest {
    private static final Due DUE = new Due("WorthTest");

    public static void main(String[] args) {
        ordinary();
        allPurses();
        refused();
        DUE.end();
    }

    private static void ask(RuinHouse x, int[] in, int payment, String number) {
        String call = "worth" + java.util.Arrays.toString(in);
        DUE.same(call, x.worth(in[0], in[1], in[2], in[3], in[4]), payment);
        DUE.same(call + " NUMBER", Due.number(x), number);
    }

    private static void ordinary() {
        RuinHouse x = new RuinHouse();
        Due.fill(x, 1, 0, 750, 2, 250);
        Due.fill(x, 7, 0, 1000);
        Due.fill(x, 2, 20, 1000);
        ask(x, new int[] {5, 0, 1, 1000, 0}, 5, "5");
        ask(x, new int[] {60, 20, 1, 0, 0}, 60, "60");
        ask(x, new int[] {0, 0, 1, 1000, 0}, 0, "0");
        ask(x, new int[] {2, 1, 1, 0, 1}, 2, "2.000000");
        ask(x, new int[] {2, 1, 1, 900, 1}, 2, "2.675000");
        ask(x, new int[] {1, 0, 7, 1000, 1}, 0, "1.000000");
        ask(x, new int[] {1, 0, 7, 999, 1}, 1, "1.000000");
        ask(x, new int[] {60, 20, 7, 1000, 6}, 0, "180." + "0".repeat(36));
        ask(x, new int[] {60, 0, 2, 1000, 6}, 60, "60." + "0".repeat(36));
        // Keeping 1: 0.75 * 2 + 0.25 * 0 = 1.5; paying it: 1 + 0.75 * 1, as a claim of 2 ruins.
        ask(x, new int[] {1, 1, 1, 1000, 1}, 1, "1.750000");
        // Two ticks from 1: keeping it 0.75 * V(2) + 0.25 * V(0) = 0.75 * 2.75 + 0.25 * 0.75;
        // paying it 1 + 0.75 * V(1) = 1 + 0.75 * 1.75.
        ask(x, new int[] {1, 1, 1, 1000, 2}, 1, "2.312500000000");
    }

    /** Every purse and count of ticks, with payments of none, some and all. */
    private static void allPurses() {
        RuinHouse x = new RuinHouse();
        Slow y = new Slow();
        int[] row = {0, 600, 1, 100, 3, 200, 7, 60, 12, 40};
        Due.fill(x, 5, row);
        for (int i = 0; i < row.length; i += 2) y.set(5, row[i], row[i + 1]);
        int some = 0;
        for (int purse = 0; purse <= 60; purse++) {
            for (int n = 0; n <= 6; n++) {
                String call = "worth(" + purse + ", 3, 5, 985, " + n + ")";
                int due = y.worth(purse, 3, 5, 985, n);
                some += due > 0 && due < purse ? 1 : 0;
                DUE.same(call, x.worth(purse, 3, 5, 985, n), due);
                DUE.same(call + " decimals()", x.decimals(), 6 * n);
                for (int i = 0; i <= 6 * n; i++) DUE.same(call + " digit(" + i + ")", x.digit(i), y.digit(i));
            }
        }
        DUE.yes("some payments lie between none and all", some > 20);
    }

    private static void refused() {
        RuinHouse x = new RuinHouse();
        Due.fill(x, 1, 0, 750, 2, 250);
        x.set(2, 0, 1);
        x.worth(2, 1, 1, 900, 1);
        int[][] wrong = {{-1, 1, 1, 900, 1}, {61, 1, 1, 900, 1}, {2, -1, 1, 900, 1}, {2, 21, 1, 900, 1},
            {2, 1, -1, 900, 1}, {2, 1, 8, 900, 1}, {2, 1, 2, 900, 1}, {2, 1, 1, -1, 1}, {2, 1, 1, 1001, 1},
            {2, 1, 1, 900, -1}, {2, 1, 1, 900, 7}, {2, 21, 1, 900, 0}, {2, 1, 2, 900, 0},
            {Integer.MAX_VALUE, 1, 1, 900, 1}, {2, Integer.MIN_VALUE, 1, 900, 1}, {2, 1, 1, Integer.MAX_VALUE, 1},
            {2, 1, 1, 900, Integer.MIN_VALUE}};
        for (int[] w : wrong) {
            DUE.same("worth" + java.util.Arrays.toString(w), x.worth(w[0], w[1], w[2], w[3], w[4]), -1);
        }
        DUE.same("as it was", Due.number(x), "2.675000");
    }
}
