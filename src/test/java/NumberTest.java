/** Promises 14 and 15: digit and decimals, of whatever made the NUMBER latest. */
public final class NumberTest {
    private static final Due DUE = new Due("NumberTest");
    private static final int MIN = Integer.MIN_VALUE;
    private static final int MAX = Integer.MAX_VALUE;

    public static void main(String[] args) {
        atFirst();
        atFirstBehindRefused();
        latest();
        eachBehindEach();
        refused();
        notMadeByOthers();
        edges();
        aheadOfThePoint();
        DUE.end();
    }

    private static House some() {
        return new House().with(0, 0, 750, 2, 250).with(7, 0, 1000).with(1, 0, 999, 1, 1);
    }

    private static void untouched(String when, House x) {
        DUE.same(when + ": decimals()", x.decimals(), 0);
        DUE.same(when + ": digit(0)", x.digit(0), 0);
        for (int i : new int[] {1, 2, 30, 120, MAX, -1, MIN}) {
            DUE.none(when + ": digit(" + i + ")", x.digit(i));
        }
    }

    private static void atFirst() {
        DUE.sentence("decimals (0 without any at first)");
        untouched("new", new House());
        House x = some();
        x.layer(0, 1, 2, true, 3);
        x.part(0, 50, true, 3);
        x.just(0, 0, 12, 0);
        x.told(0, 1, 0);
        x.lighter(0, 1);
        untouched("without a NUMBER", x);
    }

    private static void atFirstBehindRefused() {
        DUE.sentence("The NUMBER is what the latest .. made that wasn't refused");
        House x = some();
        x.ruin(101, 0, 0, 5);
        x.ruin(0, 0, 2, 5);
        x.ever(61, 0);
        x.ever(0, 2);
        x.worth(61, 0, 0, 900, 3);
        x.worth(6, 0, 2, 900, 0);
        x.two(13, 0, 0, 2, true);
        x.two(0, 0, 2, 2, false);
        untouched("behind refused calls", x);
    }

    private static void latest() {
        DUE.sentence("The NUMBER is what the latest ruin(), ever(), worth() or two() made");
        House x = some();
        x.worth(60, 20, 7, 1000, 6);
        DUE.same("worth", x.number(), "180." + "0".repeat(36));
        x.ruin(0, 1, 0, 1);
        DUE.same("ruin", x.number(), "0.250");
        x.ever(0, 0);
        DUE.same("ever", x.number(), "0." + "3".repeat(30));
        x.two(0, 0, 0, 1, false);
        DUE.same("two", x.number(), "0.562500");
        x.ruin(0, 0, 0, 2);
        DUE.same("ruin behind two", x.number(), "0.437500");
        x.worth(7, 0, 7, 0, 0);
        DUE.same("worth without decimals", x.number(), "7");
    }

    private static final int KINDS = 7;

    private static void make(House x, int kind) {
        switch (kind) {
            case 0 -> x.ruin(0, 1, 0, 1);
            case 1 -> x.ruin(0, 0, 1, 40);
            case 2 -> x.ever(0, 0);
            case 3 -> x.worth(60, 20, 7, 1000, 6);
            case 4 -> x.worth(7, 0, 7, 0, 0);
            case 5 -> x.two(0, 0, 0, 1, false);
            default -> x.two(0, 1, 1, 5, true);
        }
    }

    /** Nothing of a longer NUMBER is left in a shorter one, nor the other way round. */
    private static void eachBehindEach() {
        DUE.sentence("The NUMBER is what the latest ruin(), ever(), worth() or two() made");
        for (int second = 0; second < KINDS; second++) {
            House alone = some();
            make(alone, second);
            String due = alone.number();
            for (int first = 0; first < KINDS; first++) {
                House x = some();
                make(x, first);
                make(x, second);
                DUE.same("kind " + second + " behind kind " + first, x.number(), due);
            }
        }
    }

    private static void refused() {
        DUE.sentence("The NUMBER is what the latest .. made that wasn't refused");
        for (int kind = 0; kind < KINDS; kind++) {
            House alone = some();
            make(alone, kind);
            String due = alone.number();
            House x = some();
            make(x, kind);
            DUE.no("ruin", x.ruin(0, 1, 9, 1));
            DUE.no("ruin", x.ruin(0, 1, 0, 41));
            DUE.no("ever", x.ever(99, 0));
            DUE.no("ever", x.ever(0, 3));
            DUE.no("two", x.two(-1, 0, 0, 1, true));
            DUE.no("two", x.two(0, 0, 0, 6, false));
            DUE.none("worth", x.worth(99, 0, 7, 0, 0));
            DUE.none("worth", x.worth(0, 0, 3, 0, 0));
            DUE.same("kind " + kind + " behind refused calls", x.number(), due);
        }
    }

    private static void notMadeByOthers() {
        DUE.sentence("The NUMBER is what the latest ruin(), ever(), worth() or two() made");
        House x = some();
        x.ruin(0, 1, 0, 2);
        x.just(0, 0, 5, 5);
        x.at(1, 1);
        x.deep(1, 1);
        x.told(0, 0, 0);
        x.lighter(0, 1);
        x.layer(0, 0, 1, true, 0);
        x.part(0, 50, true, 0);
        x.set(0, 0, 1);
        DUE.same("behind all others", x.number(), "0.250000");
    }

    private static void edges() {
        DUE.sentence("digit: Decimal i of the NUMBER (from 1 on); ..; NONE if there is none such.");
        House x = some();
        x.ruin(0, 0, 0, 2);
        DUE.same("decimals()", x.decimals(), 6);
        DUE.same("digit(0)", x.digit(0), 0);
        DUE.same("digit(1)", x.digit(1), 4);
        DUE.same("digit(4)", x.digit(4), 5);
        DUE.same("digit(6)", x.digit(6), 0);
        for (int i : new int[] {7, 8, -1, -2, -6, MIN, MIN + 1, MAX, MAX - 1}) {
            DUE.none("digit(" + i + ")", x.digit(i));
        }
        // 999 to the power of 40 ends with 1: the chance of ruin ends with 9.
        x.ruin(0, 0, 1, 40);
        DUE.same("decimals()", x.decimals(), 120);
        DUE.same("digit(120)", x.digit(120), 9);
        DUE.none("digit(121)", x.digit(121));
        x.ever(0, 0);
        DUE.same("decimals()", x.decimals(), 30);
        DUE.same("digit(1)", x.digit(1), 3);
        DUE.same("digit(30)", x.digit(30), 3);
        DUE.none("digit(31)", x.digit(31));
        x.two(0, 1, 1, 5, true);
        DUE.same("decimals()", x.decimals(), 30);
        DUE.same("digit(30)", x.digit(30), 1);
        DUE.none("digit(31)", x.digit(31));
        x.worth(60, 1, 7, 999, 6);
        DUE.same("decimals()", x.decimals(), 36);
        DUE.none("digit(37)", x.digit(37));
        x.worth(60, 1, 7, 999, 0);
        DUE.same("decimals()", x.decimals(), 0);
        DUE.none("digit(1)", x.digit(1));
        DUE.none("digit(-1)", x.digit(-1));
    }

    private static void aheadOfThePoint() {
        DUE.sentence("digit: the digits ahead of the point, as a number, for 0");
        House x = some();
        for (int purse = 0; purse <= 60; purse++) {
            x.worth(purse, 0, 7, 1000, 0);
            DUE.same("worth " + purse, x.digit(0), purse);
            x.worth(purse, 20, 7, 1000, 6);
            DUE.same("worth " + purse + " and six premiums", x.digit(0), purse + 120);
        }
        x.worth(60, 20, 7, 999, 6);
        DUE.same("a little less than 180", x.digit(0), 179);
        x.with(2, 20, 1000);
        x.ruin(0, 0, 2, 1);
        DUE.same("sure", x.digit(0), 1);
        x.two(0, 7, 7, 1, true);
        DUE.same("sure", x.digit(0), 1);
        x.ever(0, 2);
        DUE.same("sure", x.digit(0), 1);
        x.ever(0, 7);
        DUE.same("never", x.digit(0), 0);
    }
}
