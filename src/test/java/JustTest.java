/** Promise 16: the JUST PREMIUM. */
public final class JustTest {
    private static final Due DUE = new Due("JustTest");
    private static final int MIN = Integer.MIN_VALUE;
    private static final int MAX = Integer.MAX_VALUE;

    public static void main(String[] args) {
        least();
        eachPremium();
        notAbove();
        notAboveInTwelveTicks();
        within();
        purseEdges();
        tickEdges();
        millionthsEdges();
        bookEdges();
        outside();
        changesNothing();
        againstSlow();
        DUE.end();
    }

    private static House some() {
        return new House().with(0, 0, 700, 3, 200, 5, 100).with(7, 20, 1000);
    }

    private static void least() {
        DUE.sentence("just: The JUST PREMIUM: the least one (0 .. 20)");
        House x = some();
        DUE.same("just .3", x.just(0, 0, 1, 300000), 0);
        DUE.same("just below .3", x.just(0, 0, 1, 299999), 3);
        DUE.same("just .1", x.just(0, 0, 1, 100000), 3);
        DUE.same("just below .1", x.just(0, 0, 1, 99999), 5);
        DUE.same("never", x.just(0, 0, 1, 0), 5);
        DUE.same("never, 12 ticks", x.just(0, 0, 12, 0), 5);
    }

    private static void eachPremium() {
        DUE.sentence("just: the least one (0 .. 20)");
        for (int size = 0; size <= 20; size++) {
            House x = new House().with(1, size, 1000).with(2, 0, 999).with(2, size, size == 0 ? 1000 : 1);
            DUE.same("all in " + size, x.just(0, 1, 1, 0), size);
            DUE.same("all in " + size, x.just(0, 1, 1, 999999), size);
            DUE.same("all in " + size, x.just(0, 1, 12, 0), size);
            DUE.same("one in " + size, x.just(0, 2, 1, 999), size);
            DUE.same("one in " + size, x.just(0, 2, 1, 1000), 0);
        }
    }

    private static void notAbove() {
        DUE.sentence("just: RUIN .. is not above so many millionths");
        House x = new House().with(1, 0, 500, 1, 500);
        DUE.same("63 of 64", x.just(0, 1, 6, 984375), 0);
        DUE.same("63 of 64", x.just(0, 1, 6, 984374), 1);
        DUE.same("4095 of 4096, below", x.just(0, 1, 12, 999755), 1);
        DUE.same("4095 of 4096, above", x.just(0, 1, 12, 999756), 0);
        DUE.same("2 ticks", x.just(0, 1, 2, 750000), 0);
        DUE.same("2 ticks", x.just(0, 1, 2, 749999), 1);
    }

    /** With a premium of 19 half is ruined in the first tick, and the other half isn't any more. */
    private static void notAboveInTwelveTicks() {
        DUE.sentence("just: RUIN within n TICKS (1 .. 12) .. is not above so many millionths");
        House x = new House().with(1, 0, 500, 20, 500);
        DUE.same("just a half", x.just(0, 1, 12, 500000), 19);
        DUE.same("just below a half", x.just(0, 1, 12, 499999), 20);
    }

    private static void within() {
        DUE.sentence("just: RUIN within n TICKS");
        House x = new House().with(1, 0, 500, 4, 500);
        // With 2: ruin at once in a half; else 2, and behind a claim 0, so that ruin comes at the third.
        DUE.same("2 ticks", x.just(0, 1, 2, 500000), 2);
        DUE.same("3 ticks", x.just(0, 1, 3, 500000), 3);
        DUE.same("3 ticks", x.just(0, 1, 3, 625000), 2);
    }

    private static void purseEdges() {
        DUE.sentence("just: from a PURSE (0 .. 100)");
        House x = some();
        DUE.same("from 0", x.just(0, 7, 12, 0), 20);
        DUE.same("from 1", x.just(1, 7, 1, 0), 19);
        DUE.same("from 99", x.just(99, 7, 5, 0), 1);
        DUE.same("from 100", x.just(100, 7, 5, 0), 0);
        DUE.same("from 100", x.just(100, 7, 12, 0), 12);
    }

    private static void tickEdges() {
        DUE.sentence("just: within n TICKS (1 .. 12)");
        House x = new House().with(1, 1, 1000);
        DUE.same("n 1", x.just(1, 1, 1, 0), 0);
        DUE.same("n 1", x.just(0, 1, 1, 0), 1);
        DUE.same("n 11", x.just(11, 1, 11, 0), 0);
        DUE.same("n 12", x.just(11, 1, 12, 0), 1);
        DUE.same("n 12", x.just(12, 1, 12, 0), 0);
    }

    private static void millionthsEdges() {
        DUE.sentence("just: so many millionths (0 .. 1000000)");
        House x = some();
        DUE.same("0", x.just(0, 7, 1, 0), 20);
        DUE.same("1", x.just(0, 7, 1, 1), 20);
        DUE.same("999999", x.just(0, 7, 1, 999999), 20);
        DUE.same("1000000", x.just(0, 7, 1, 1000000), 0);
        DUE.same("1000000, 12 ticks", x.just(0, 7, 12, 1000000), 0);
        House y = new House().with(1, 0, 999, 1, 1);
        DUE.same("1 in a million, twice in a row", y.just(1, 1, 2, 1), 0);
        DUE.same("not even that", y.just(1, 1, 2, 0), 1);
    }

    private static void bookEdges() {
        DUE.sentence("just: with a RIGHT BOOK; NONE if that can't be");
        for (int book = 0; book <= 7; book++) {
            House x = new House().with(book, 9, 1000);
            DUE.same("book " + book, x.just(0, book, 1, 0), 9);
            x.set(book, 0, 1);
            DUE.none("1001 in book " + book, x.just(0, book, 1, 0));
            x.set(book, 9, 998);
            DUE.none("999 in book " + book, x.just(0, book, 1, 0));
        }
    }

    private static void outside() {
        DUE.sentence("just: NONE if that can't be, or none is.");
        House x = some();
        int[][] wrong = {{-1, 0, 1, 0}, {101, 0, 1, 0}, {0, -1, 1, 0}, {0, 8, 1, 0}, {0, 1, 1, 0}, {0, 0, 0, 0},
            {0, 0, 13, 0}, {0, 0, -1, 0}, {0, 0, 40, 0}, {0, 0, 1, -1}, {0, 0, 1, 1000001}, {MIN, 0, 1, 0},
            {MAX, 0, 1, 0}, {0, MIN, 1, 0}, {0, MAX, 1, 0}, {0, 0, MIN, 0}, {0, 0, MAX, 0}, {0, 0, 1, MIN},
            {0, 0, 1, MAX}};
        for (int[] w : wrong) {
            DUE.none("just" + java.util.Arrays.toString(w), x.just(w[0], w[1], w[2], w[3]));
        }
    }

    private static void changesNothing() {
        DUE.sentence("The NUMBER is what the latest ruin(), ever(), worth() or two() made");
        House x = some();
        x.ruin(1, 1, 0, 1);
        DUE.same("just", x.just(0, 7, 12, 0), 20);
        DUE.same("the NUMBER as it was", x.number(), "0.300");
        DUE.same("at as it was", x.atText(1, 3), "300");
        DUE.none("at as it was", x.at(2, 1));
        DUE.same("deep as it was", x.deepText(3, 3), "100");
        DUE.same("the book as it was", x.row(7), "20:1000");
    }

    /** Right at the chances, cut to millionths, of each premium. */
    private static void againstSlow() {
        DUE.sentence("just: the least one with which RUIN within n TICKS is not above so many millionths");
        int[] row = {0, 403, 1, 99, 2, 71, 5, 201, 11, 103, 19, 100, 20, 23};
        Slow y = new Slow();
        for (int i = 0; i < row.length; i += 2) y.set(4, row[i], row[i + 1]);
        int[][] asked = {{0, 12}, {0, 1}, {30, 12}, {100, 12}, {9, 5}};
        for (int[] a : asked) {
            House x = new House().with(4, row);
            for (int premium = 0; premium <= 20; premium += 2) {
                int near = y.millionths(a[0], premium, 4, a[1]);
                for (int millionths = near; millionths <= near + 1; millionths++) {
                    DUE.same("just(" + a[0] + ", 4, " + a[1] + ", " + millionths + ")", x.just(a[0], 4, a[1], millionths),
                            y.just(a[0], 4, a[1], millionths));
                }
            }
        }
    }
}
