/** Promises 9 and 10: which decimals at() and deep() have, and of which ruin() they are. */
public final class WhenAndHowDeepTest {
    private static final Due DUE = new Due("WhenAndHowDeepTest");
    private static final int MIN = Integer.MIN_VALUE;
    private static final int MAX = Integer.MAX_VALUE;

    public static void main(String[] args) {
        aheadOfAnyRuin();
        behindRefusedAlone();
        atEdges();
        atOfForty();
        deepEdges();
        deepOfForty();
        behindRefused();
        behindFewerTicks();
        behindMoreTicks();
        behindOtherCalls();
        DUE.end();
    }

    private static House some() {
        return new House().with(0, 0, 700, 3, 200, 5, 100).with(1, 0, 750, 2, 250);
    }

    private static void noneOfAny(String when, House x) {
        for (int t : new int[] {MIN, -1, 0, 1, 2, 40, 41, MAX}) {
            for (int i : new int[] {MIN, -1, 0, 1, 3, 120, 121, MAX}) {
                DUE.none(when + ": at(" + t + ", " + i + ")", x.at(t, i));
                DUE.none(when + ": deep(" + t + ", " + i + ")", x.deep(t, i));
            }
        }
    }

    private static void aheadOfAnyRuin() {
        DUE.sentence("at: .. of the latest ruin(); NONE if there is none such.");
        noneOfAny("new", new House());
        House x = some();
        x.ever(3, 1);
        x.worth(9, 1, 1, 900, 3);
        x.two(0, 0, 1, 5, true);
        x.two(0, 0, 1, 5, false);
        x.just(0, 1, 12, 0);
        noneOfAny("ahead of any ruin()", x);
    }

    private static void behindRefusedAlone() {
        DUE.sentence("at: .. of the latest ruin(); NONE if there is none such.");
        House x = some();
        DUE.no("ruin(101, 0, 0, 5)", x.ruin(101, 0, 0, 5));
        DUE.no("ruin(0, 0, 2, 5)", x.ruin(0, 0, 2, 5));
        DUE.no("ruin(0, 0, 0, 41)", x.ruin(0, 0, 0, 41));
        noneOfAny("behind a refused ruin()", x);
    }

    private static void atEdges() {
        DUE.sentence("at: Decimal i (1 .. 3 n) of the chance that RUIN comes at TICK t (1 .. n)");
        House x = some();
        x.ruin(1, 1, 0, 2);
        DUE.same("at(1, 1)", x.at(1, 1), 3);
        DUE.same("at(1, 6)", x.at(1, 6), 0);
        DUE.same("at(2, 1)", x.at(2, 1), 0);
        DUE.same("at(2, 2)", x.at(2, 2), 7);
        DUE.same("at(2, 6)", x.at(2, 6), 0);
        int[][] none = {{0, 1}, {3, 1}, {-1, 1}, {1, 0}, {1, 7}, {1, -1}, {2, 0}, {2, 7}, {0, 0}, {3, 7}, {MIN, 1},
            {MAX, 1}, {1, MIN}, {1, MAX}, {MIN, MIN}, {MAX, MAX}};
        for (int[] w : none) {
            DUE.none("at" + java.util.Arrays.toString(w), x.at(w[0], w[1]));
        }
        House y = some();
        y.ruin(1, 1, 0, 1);
        DUE.same("n 1: at(1, 1)", y.at(1, 1), 3);
        DUE.same("n 1: at(1, 3)", y.at(1, 3), 0);
        DUE.none("n 1: at(1, 4)", y.at(1, 4));
        DUE.none("n 1: at(2, 1)", y.at(2, 1));
    }

    private static void atOfForty() {
        DUE.sentence("at: Decimal i (1 .. 3 n) of the chance that RUIN comes at TICK t (1 .. n)");
        House x = new House().with(7, 0, 999, 1, 1);
        x.ruin(0, 0, 7, 40);
        DUE.same("at(1, 3)", x.at(1, 3), 1);
        DUE.same("at(1, 4)", x.at(1, 4), 0);
        DUE.same("at(1, 120)", x.at(1, 120), 0);
        // 999 to the power of 39 ends with 9, and a thousandth is the last factor.
        DUE.same("at(40, 120)", x.at(40, 120), 9);
        DUE.same("at(40, 1)", x.at(40, 1), 0);
        DUE.none("at(40, 121)", x.at(40, 121));
        DUE.none("at(41, 1)", x.at(41, 1));
        DUE.none("at(40, 0)", x.at(40, 0));
    }

    private static void deepEdges() {
        DUE.sentence("deep: Decimal i (1 .. 3 n) of the chance that the PURSE is k below 0 when RUIN comes (k 1 .. 20)");
        House x = new House().with(3, 1, 200, 20, 300, 0, 500);
        x.ruin(0, 0, 3, 2);
        DUE.same("deep(1)", x.deepText(1, 6), "300000");
        DUE.same("deep(20)", x.deepText(20, 6), "450000");
        DUE.same("deep(2)", x.deepText(2, 6), "000000");
        DUE.same("deep(19)", x.deepText(19, 6), "000000");
        int[][] none = {{0, 1}, {21, 1}, {-1, 1}, {1, 0}, {1, 7}, {1, -1}, {20, 0}, {20, 7}, {0, 0}, {21, 7}, {MIN, 1},
            {MAX, 1}, {1, MIN}, {1, MAX}, {MIN, MIN}, {MAX, MAX}};
        for (int[] w : none) {
            DUE.none("deep" + java.util.Arrays.toString(w), x.deep(w[0], w[1]));
        }
        House y = new House().with(3, 1, 200, 20, 300, 0, 500);
        y.ruin(0, 0, 3, 1);
        DUE.same("n 1: deep(20)", y.deepText(20, 3), "300");
        DUE.none("n 1: deep(20, 4)", y.deep(20, 4));
    }

    private static void deepOfForty() {
        DUE.sentence("deep: Decimal i (1 .. 3 n) .. within all its TICKS");
        House x = new House().with(7, 0, 999, 20, 1);
        x.ruin(0, 0, 7, 40);
        DUE.same("deep(20, 120)", x.deep(20, 120), 9);
        DUE.none("deep(20, 121)", x.deep(20, 121));
        DUE.same("deep(19, 120)", x.deep(19, 120), 0);
        DUE.none("deep(21, 120)", x.deep(21, 120));
        DUE.none("deep(20, 0)", x.deep(20, 0));
    }

    private static void behindRefused() {
        DUE.sentence("What is refused changes nothing.");
        House x = some();
        x.ruin(1, 1, 0, 2);
        DUE.no("ruin(1, 1, 0, 41)", x.ruin(1, 1, 0, 41));
        DUE.no("ruin(101, 1, 0, 3)", x.ruin(101, 1, 0, 3));
        DUE.no("ruin(1, 1, 7, 1)", x.ruin(1, 1, 7, 1));
        DUE.same("at(2)", x.atText(2, 6), "070000");
        DUE.none("at(3, 1)", x.at(3, 1));
        DUE.none("at(1, 7)", x.at(1, 7));
        DUE.same("deep(2)", x.deepText(2, 6), "070000");
        DUE.none("deep(2, 7)", x.deep(2, 7));
    }

    private static void behindFewerTicks() {
        DUE.sentence("at: .. at TICK t (1 .. n) of the latest ruin()");
        House x = new House().with(0, 0, 700, 3, 200, 5, 100);
        x.ruin(1, 1, 0, 3);
        DUE.same("at(3, 9)", x.at(3, 9), 0);
        x.ruin(1, 1, 0, 2);
        DUE.none("at(3, 1) of two TICKS", x.at(3, 1));
        DUE.none("at(1, 7) of two TICKS", x.at(1, 7));
        DUE.none("deep(1, 7) of two TICKS", x.deep(1, 7));
        DUE.same("at(2) of two TICKS", x.atText(2, 6), "070000");
        DUE.same("deep(2) of two TICKS", x.deepText(2, 6), "070000");
        x.ruin(2, 1, 0, 1);
        DUE.none("at(2, 1) of one TICK", x.at(2, 1));
        DUE.none("at(1, 4) of one TICK", x.at(1, 4));
        DUE.none("deep(1, 4) of one TICK", x.deep(1, 4));
        DUE.same("at(1) of one TICK", x.atText(1, 3), "100");
        DUE.same("deep(1) of one TICK", x.deepText(1, 3), "000");
        DUE.same("deep(2) of one TICK", x.deepText(2, 3), "100");
        DUE.same("deep(3) of one TICK", x.deepText(3, 3), "000");
    }

    private static void behindMoreTicks() {
        DUE.sentence("at: .. of the latest ruin()");
        House x = new House().with(0, 0, 999, 1, 1).with(1, 0, 1000);
        x.ruin(0, 0, 0, 40);
        x.ruin(0, 0, 0, 1);
        x.ruin(0, 0, 1, 40);
        for (int t = 1; t <= 40; t++) {
            DUE.same("at(" + t + ")", x.atText(t, 6), "000000");
        }
        DUE.same("deep(1)", x.deepText(1, 120), "0".repeat(120));
    }

    private static void behindOtherCalls() {
        DUE.sentence("ruin: (at() and deep() are of it, then.)");
        House x = some();
        x.ruin(1, 1, 0, 2);
        x.ever(3, 1);
        x.worth(9, 1, 1, 900, 3);
        x.two(0, 0, 1, 5, true);
        x.two(0, 0, 1, 5, false);
        x.just(0, 1, 12, 0);
        x.layer(0, 1, 4, true, 0);
        x.part(0, 50, true, 0);
        x.anew(0, 0, 1000);
        DUE.same("at(1)", x.atText(1, 6), "300000");
        DUE.same("at(2)", x.atText(2, 6), "070000");
        DUE.none("at(3, 1)", x.at(3, 1));
        DUE.same("deep(1)", x.deepText(1, 6), "200000");
        DUE.same("deep(2)", x.deepText(2, 6), "070000");
        DUE.same("deep(3)", x.deepText(3, 6), "100000");
        DUE.none("deep(3, 7)", x.deep(3, 7));
    }
}
