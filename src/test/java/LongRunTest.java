/** "An object is used for at most 512 calls after it has been made": the 512th still answers as due. */
public final class LongRunTest {
    private static final Due DUE = new Due("LongRunTest");

    public static void main(String[] args) {
        DUE.sentence("An object is used for at most 512 calls after it has been made");
        ruins();
        evers();
        worths();
        twos();
        justs();
        partsOverAndOver();
        sets();
        refusals();
        DUE.end();
    }

    private static House flat() {
        House x = new House();
        for (int size = 0; size <= 20; size++) x.set(0, size, size < 13 ? 48 : 47);
        return x;
    }

    private static Slow slowFlat() {
        Slow y = new Slow();
        for (int size = 0; size <= 20; size++) y.set(0, size, size < 13 ? 48 : 47);
        return y;
    }

    /** Asks for decimals of the NUMBER until all calls are used up: all of them, if there is room. */
    private static void numberToTheEnd(String what, House x, Slow y) {
        int most = y.decimals();
        for (int i = 0; x.calls() < House.MOST_CALLS; i++) {
            int place = i % (most + 2);
            DUE.same(what + ": call " + (x.calls() + 1) + ", digit(" + place + ")", x.digit(place), y.digit(place));
        }
        DUE.same(what + ": calls", x.calls(), House.MOST_CALLS);
    }

    /** The dearest ruin()s, over and over. */
    private static void ruins() {
        House x = flat();
        Slow y = slowFlat();
        for (int k = 0; k < 300; k++) DUE.yes("ruin " + k, x.ruin(100 - k % 3, 8 + k % 3, 0, 40));
        x.ruin(100, 9, 0, 40);
        y.ruin(100, 9, 0, 40);
        for (int t = 1; t <= 40; t++) DUE.same("at(" + t + ", 60)", x.at(t, 60), y.at(t, 60));
        for (int k = 1; k <= 20; k++) DUE.same("deep(" + k + ", 90)", x.deep(k, 90), y.deep(k, 90));
        numberToTheEnd("ruins", x, y);
    }

    private static void evers() {
        House x = new House().with(3, 0, 950, 19, 1, 20, 49);
        Slow y = new Slow();
        y.set(3, 0, 950);
        y.set(3, 19, 1);
        y.set(3, 20, 49);
        for (int k = 0; k < 450; k++) DUE.yes("ever " + k, x.ever(60 - k % 7, 3));
        x.ever(60, 3);
        y.ever(60, 3);
        numberToTheEnd("evers", x, y);
    }

    private static void worths() {
        House x = flat();
        Slow y = slowFlat();
        for (int k = 0; k < 440; k++) DUE.yes("worth " + k, x.worth(60 - k % 7, 20 - k % 3, 0, 999, 6) >= 0);
        DUE.same("worth", x.worth(60, 19, 0, 999, 6), y.worth(60, 19, 0, 999, 6));
        numberToTheEnd("worths", x, y);
    }

    private static void twos() {
        House x = flat();
        Slow y = slowFlat();
        for (int k = 0; k < 440; k++) DUE.yes("two " + k, x.two(0x66CC - k % 5, 0, 0, 5, k % 2 == 0));
        x.two(0x66CC, 0, 0, 5, true);
        y.two(0x66CC, 0, 0, 5, true);
        numberToTheEnd("twos", x, y);
    }

    private static void justs() {
        House x = flat();
        Slow y = slowFlat();
        int[] due = {y.just(0, 0, 12, 250000), y.just(40, 0, 12, 250000), y.just(100, 0, 12, 0)};
        for (int k = 0; x.calls() < House.MOST_CALLS; k++) {
            int purse = k % 3 == 0 ? 0 : k % 3 == 1 ? 40 : 100;
            DUE.same("just " + k, x.just(purse, 0, 12, k % 3 == 2 ? 0 : 250000), due[k % 3]);
        }
    }

    /** Layers and parts of books that were layered and parted, each compared with the slow way. */
    private static void partsOverAndOver() {
        House x = flat();
        Slow y = slowFlat();
        for (int k = 0; x.calls() + 3 < House.MOST_CALLS; k++) {
            int from = k % 8;
            int to = (k * 5 + 1) % 8;
            boolean given = k % 3 == 0;
            boolean layered = k % 2 == 0;
            if (k % 40 == 39) {
                DUE.same("set " + k, bit(x.set(from, 0, 1000)), bit(y.set(from, 0, 1000)));
            } else if (layered) {
                DUE.same("layer " + k, bit(x.layer(from, k % 5, 15, given, to)), bit(y.layer(from, k % 5, 15, given, to)));
            } else {
                DUE.same("part " + k, bit(x.part(from, 90, given, to)), bit(y.part(from, 90, given, to)));
            }
            DUE.same("parts " + k, x.parts(to, k % 4), y.parts(to, k % 4));
            DUE.same("right " + k, bit(x.right(to)), bit(y.right(to)));
        }
    }

    private static void sets() {
        House x = new House();
        for (int k = 0; k < 504; k++) x.set(k % 8, k % 21, k);
        x.set(7, 20, 1000);
        DUE.same("parts(7, 20)", x.parts(7, 20), 1000);
        DUE.same("parts(6, 20)", x.parts(6, 20), 398);
        DUE.same("parts(7, 19)", x.parts(7, 19), 439);
        DUE.none("parts(8, 0)", x.parts(8, 0));
        DUE.no("right(7)", x.right(7));
        DUE.yes("set(0, 0, 0)", x.set(0, 0, 0));
        DUE.same("parts(0, 0)", x.parts(0, 0), 0);
        DUE.same("calls", x.calls(), 512);
    }

    /** Hundreds of refused calls leave the object as it was. */
    private static void refusals() {
        House x = new House().with(1, 0, 750, 2, 250);
        x.ruin(0, 1, 1, 2);
        for (int k = 0; k < 98; k++) {
            DUE.no("ruin", x.ruin(0, 0, 1, 41 + k));
            DUE.no("ever", x.ever(61 + k, 1));
            DUE.none("worth", x.worth(0, 0, 1, 1001 + k, 1));
            DUE.no("two", x.two(65536 + k, 1, 1, 1, true));
            DUE.no("set", x.set(1, 0, 1001 + k));
        }
        DUE.same("the NUMBER", x.number(), "0.250000");
        DUE.same("at(1)", x.atText(1, 6), "250000");
        DUE.same("parts(1, 0)", x.parts(1, 0), 750);
        DUE.same("deep(1, 2)", x.deep(1, 2), 5);
        DUE.same("calls so far", x.calls(), 509);
        DUE.yes("right(1)", x.right(1));
        DUE.none("at(3, 1)", x.at(3, 1));
        DUE.same("the 512th call, digit(1)", x.digit(1), 2);
    }

    private static int bit(boolean answer) {
        return answer ? 1 : 0;
    }
}
