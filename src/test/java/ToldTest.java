/** Promises 5 and 17: MEAN, SPREAD, the STOP, and which BOOK is lighter. */
public final class ToldTest {
    private static final Due DUE = new Due("ToldTest");
    private static final int MIN = Integer.MIN_VALUE;
    private static final int MAX = Integer.MAX_VALUE;

    public static void main(String[] args) {
        mean();
        spread();
        stop();
        stopOutside();
        whatOutside();
        dForTheStopAlone();
        notRight();
        noSuchBook();
        lighter();
        eachStopCounts();
        equalStops();
        lighterOfNone();
        DUE.end();
    }

    private static void mean() {
        DUE.sentence("MEAN is the sum of SIZES times PARTS");
        for (int size = 0; size <= 20; size++) {
            House x = new House().with(0, size, 1000);
            DUE.same("MEAN of all in " + size, x.told(0, 0, 0), 1000 * size);
        }
        House x = new House().with(7, 0, 500, 3, 300, 20, 200).with(1, 0, 999, 1, 1);
        DUE.same("MEAN", x.told(7, 0, 0), 4900);
        DUE.same("the least MEAN above 0", x.told(1, 0, 0), 1);
    }

    private static void spread() {
        DUE.sentence("SPREAD 1000 times the sum of SIZES' squares times PARTS, less MEAN times MEAN.");
        for (int size = 0; size <= 20; size++) {
            House x = new House().with(0, size, 1000);
            DUE.same("SPREAD of all in " + size, x.told(0, 1, 0), 0);
        }
        House x = new House().with(0, 0, 500, 20, 500).with(1, 0, 500, 3, 300, 20, 200).with(2, 0, 999, 20, 1)
                .with(3, 0, 999, 1, 1);
        DUE.same("the widest SPREAD", x.told(0, 1, 0), 100000000);
        DUE.same("SPREAD", x.told(1, 1, 0), 1000 * (9 * 300 + 400 * 200) - 4900 * 4900);
        DUE.same("SPREAD", x.told(2, 1, 0), 1000 * 400 - 20 * 20);
        DUE.same("SPREAD", x.told(3, 1, 0), 1000 - 1);
    }

    private static void stop() {
        DUE.sentence("the STOP at d the sum of what SIZES are more than d, times PARTS");
        for (int size = 0; size <= 20; size++) {
            House x = new House().with(0, size, 1000);
            for (int d = 0; d <= 20; d++) {
                DUE.same("STOP at " + d + " of all in " + size, x.told(0, 2, d), size > d ? 1000 * (size - d) : 0);
            }
        }
        House x = new House().with(1, 0, 500, 3, 300, 20, 200);
        DUE.same("STOP at 0", x.told(1, 2, 0), 4900);
        DUE.same("STOP at 2", x.told(1, 2, 2), 300 + 18 * 200);
        DUE.same("STOP at 3", x.told(1, 2, 3), 17 * 200);
        DUE.same("STOP at 19", x.told(1, 2, 19), 200);
        DUE.same("STOP at 20", x.told(1, 2, 20), 0);
    }

    private static void stopOutside() {
        DUE.sentence("told: the STOP at d (2; d 0 .. 20). NONE for others.");
        House x = new House().with(1, 0, 500, 20, 500);
        for (int d : new int[] {-1, 21, -2, 22, MIN, MIN + 1, MAX, MAX - 1, MIN + 20}) {
            DUE.none("told(1, 2, " + d + ")", x.told(1, 2, d));
        }
    }

    private static void whatOutside() {
        DUE.sentence("told: MEAN (what 0), SPREAD (1), the STOP at d (2; ..). NONE for others.");
        House x = new House().with(1, 0, 500, 20, 500);
        for (int what : new int[] {-1, 3, 4, -2, MIN, MIN + 2, MAX}) {
            DUE.none("told(1, " + what + ", 0)", x.told(1, what, 0));
        }
    }

    /** Read plainly: the bounds of d stand with the STOP, so MEAN and SPREAD don't look at it. */
    private static void dForTheStopAlone() {
        DUE.sentence("told: MEAN (what 0), SPREAD (1), the STOP at d (2; d 0 .. 20).");
        House x = new House().with(1, 0, 500, 20, 500);
        for (int d : new int[] {-1, 0, 20, 21, MIN, MAX}) {
            DUE.same("told(1, 0, " + d + ")", x.told(1, 0, d), 10000);
            DUE.same("told(1, 1, " + d + ")", x.told(1, 1, d), 100000000);
        }
    }

    private static void notRight() {
        DUE.sentence("told: Of a RIGHT BOOK: .. NONE for others.");
        House x = new House().with(1, 0, 999).with(2, 0, 1000, 20, 1);
        for (int book : new int[] {0, 1, 2}) {
            for (int what = 0; what <= 2; what++) {
                DUE.none("told(" + book + ", " + what + ", 0)", x.told(book, what, 0));
            }
        }
    }

    private static void noSuchBook() {
        DUE.sentence("told: Of a RIGHT BOOK: .. NONE for others.");
        House x = new House().with(0, 20, 1000).with(7, 20, 1000);
        DUE.same("told(0, 0, 0)", x.told(0, 0, 0), 20000);
        DUE.same("told(7, 0, 0)", x.told(7, 0, 0), 20000);
        for (int book : new int[] {-1, 8, MIN, MAX}) {
            for (int what = 0; what <= 2; what++) {
                DUE.none("told(" + book + ", " + what + ", 0)", x.told(book, what, 0));
            }
        }
    }

    private static void lighter() {
        DUE.sentence("lighter: Whether in no STOP (at 0 .. 20) the first RIGHT BOOK has more than the second one");
        House x = new House().with(0, 4, 1000).with(1, 0, 500, 8, 500).with(2, 5, 1000).with(3, 0, 999, 20, 1)
                .with(7, 19, 1000);
        DUE.yes("the same mean, less spread", x.lighter(0, 1));
        DUE.no("the same mean, more spread", x.lighter(1, 0));
        DUE.yes("less", x.lighter(0, 2));
        DUE.no("neither", x.lighter(1, 2));
        DUE.no("neither", x.lighter(2, 1));
        DUE.no("just at the STOP of 19", x.lighter(3, 7));
        DUE.no("the other way, at the STOP of 0", x.lighter(7, 3));
    }

    /** The first book has one part more in the STOP at d alone. */
    private static void eachStopCounts() {
        DUE.sentence("lighter: in no STOP (at 0 .. 20)");
        House x = new House().with(0, 0, 999, 1, 1).with(1, 0, 1000);
        DUE.no("more at 0 alone", x.lighter(0, 1));
        DUE.yes("less at 0 alone", x.lighter(1, 0));
        for (int d = 1; d <= 19; d++) {
            House y = new House().with(0, d - 1, 1, d, 998, d + 1, 1).with(1, d, 1000);
            DUE.no("more at " + d + " alone", y.lighter(0, 1));
            DUE.yes("less at " + d + " alone", y.lighter(1, 0));
        }
    }

    private static void equalStops() {
        DUE.sentence("lighter: in no STOP .. has more");
        House x = new House().with(0, 0, 500, 20, 500).with(7, 0, 500, 20, 500);
        DUE.yes("itself", x.lighter(0, 0));
        DUE.yes("the same", x.lighter(0, 7));
        DUE.yes("the same", x.lighter(7, 0));
    }

    private static void lighterOfNone() {
        DUE.sentence("lighter: false if one is none.");
        House x = new House().with(0, 0, 1000).with(7, 20, 1000).with(1, 0, 999).with(2, 0, 1000, 20, 1);
        DUE.yes("lighter(0, 7)", x.lighter(0, 7));
        for (int book : new int[] {-1, 8, MIN, MAX, 1, 2, 3}) {
            DUE.no("lighter(" + book + ", 7)", x.lighter(book, 7));
            DUE.no("lighter(0, " + book + ")", x.lighter(0, book));
            DUE.no("lighter(" + book + ", " + book + ")", x.lighter(book, book));
        }
    }
}
