/** Promises 14 and 15: digit and decimals, of whatever made the NUMBER latest. */
public final class NumberTest {
    private static final Due DUE = new Due("NumberTest");

    public static void main(String[] args) {
        atFirst();
        latest();
        outside();
        DUE.end();
    }

    private static void atFirst() {
        RuinHouse x = new RuinHouse();
        DUE.same("decimals()", x.decimals(), 0);
        DUE.same("digit(0)", x.digit(0), 0);
        DUE.same("digit(1)", x.digit(1), -1);
        DUE.same("digit(-1)", x.digit(-1), -1);
    }

    private static void latest() {
        RuinHouse x = new RuinHouse();
        Due.fill(x, 0, 0, 750, 2, 250);
        Due.fill(x, 7, 0, 1000);
        x.worth(60, 20, 7, 1000, 6);
        DUE.same("worth", Due.number(x), "180." + "0".repeat(36));
        x.ruin(0, 1, 0, 1);
        DUE.same("ruin", Due.number(x), "0.250");
        x.ever(0, 0);
        DUE.same("ever", Due.number(x), "0." + "3".repeat(30));
        x.two(0, 0, 0, 1, false);
        DUE.same("two", Due.number(x), "0.562500");
        x.ruin(0, 0, 0, 2);
        DUE.same("ruin behind two", Due.number(x), "0.437500");
        x.worth(7, 0, 7, 0, 0);
        DUE.same("worth without decimals", Due.number(x), "7");
        x.ruin(0, 1, 9, 1);
        x.ever(99, 0);
        x.two(-1, 0, 0, 1, true);
        x.worth(99, 0, 7, 0, 0);
        x.just(0, 0, 5, 5);
        x.layer(0, 0, 1, true, 3);
        x.set(0, 0, 1);
        DUE.same("what others leave", Due.number(x), "7");
    }

    private static void outside() {
        RuinHouse x = new RuinHouse();
        Due.fill(x, 0, 0, 750, 2, 250);
        x.ruin(0, 0, 0, 2);
        DUE.same("decimals()", x.decimals(), 6);
        DUE.same("digit(6)", x.digit(6), 0);
        DUE.same("digit(7)", x.digit(7), -1);
        DUE.same("digit(-1)", x.digit(-1), -1);
        DUE.same("digit(MIN)", x.digit(Integer.MIN_VALUE), -1);
        DUE.same("digit(MAX)", x.digit(Integer.MAX_VALUE), -1);
    }
}
