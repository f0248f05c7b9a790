/** Promises 6 and 7: what is kept and what is given on, in layers and parts. */
public final class GivenOnTest {
    private static final Due DUE = new Due("GivenOnTest");
    private static final int MIN = Integer.MIN_VALUE;
    private static final int MAX = Integer.MAX_VALUE;

    public static void main(String[] args) {
        layerByHand();
        everyLayer();
        emptyLayer();
        wholeLayer();
        layerOutside();
        layerBooks();
        layerOntoItself();
        partByHand();
        everyShare();
        cut();
        shareEdges();
        shareOutside();
        partBooks();
        partOntoItself();
        DUE.end();
    }

    /** Book 0 has parts of each size, book 6 some that must go. */
    private static House full() {
        House x = new House().with(6, 7, 77, 20, 1000);
        for (int size = 0; size <= 20; size++) {
            x.set(0, size, size == 20 ? 1000 - 20 * 30 - 190 : 30 + size);
        }
        return x;
    }

    private static int fullParts(int size) {
        return size == 20 ? 210 : 30 + size;
    }

    private static String text(int[] row) {
        StringBuilder text = new StringBuilder();
        for (int size = 0; size <= 20; size++) {
            if (row[size] != 0) {
                text.append(text.length() == 0 ? "" : " ").append(size).append(':').append(row[size]);
            }
        }
        return text.toString();
    }

    private static House some() {
        return new House().with(0, 0, 100, 3, 200, 5, 300, 8, 250, 20, 150).with(6, 7, 77);
    }

    private static void layerByHand() {
        DUE.sentence("LAYERED from a to b: given on is what of s is above a, b - a at most; kept the rest.");
        House x = some();
        DUE.yes("layer kept", x.layer(0, 4, 7, false, 6));
        DUE.same("kept above 4 to 7", x.row(6), "0:100 3:200 4:300 5:250 17:150");
        DUE.yes("layer given", x.layer(0, 4, 7, true, 6));
        DUE.same("given on above 4 to 7", x.row(6), "0:300 1:300 3:400");
        DUE.same("the book itself stays", x.row(0), "0:100 3:200 5:300 8:250 20:150");
    }

    private static void everyLayer() {
        DUE.sentence("A BOOK of what is kept (or given on) has for each SIZE the PARTS of all claims of which that is "
                + "kept (given on).");
        for (int a = 0; a <= 20; a++) {
            for (int b = a; b <= 20; b++) {
                int[] kept = new int[21];
                int[] given = new int[21];
                for (int s = 0; s <= 20; s++) {
                    int on = s <= a ? 0 : s <= b ? s - a : b - a;
                    kept[s - on] += fullParts(s);
                    given[on] += fullParts(s);
                }
                House x = full();
                DUE.yes("layer(0, " + a + ", " + b + ", false, 6)", x.layer(0, a, b, false, 6));
                DUE.same("kept, " + a + " to " + b, x.row(6), text(kept));
                DUE.yes("RIGHT", x.right(6));
                DUE.yes("layer(0, " + a + ", " + b + ", true, 6)", x.layer(0, a, b, true, 6));
                DUE.same("given on, " + a + " to " + b, x.row(6), text(given));
                DUE.yes("RIGHT", x.right(6));
            }
        }
    }

    private static void emptyLayer() {
        DUE.sentence("layer: a not above b");
        for (int a = 0; a <= 20; a++) {
            House x = some();
            DUE.yes("layer(0, " + a + ", " + a + ", true, 6)", x.layer(0, a, a, true, 6));
            DUE.same("nothing given on", x.row(6), "0:1000");
            DUE.yes("layer(0, " + a + ", " + a + ", false, 6)", x.layer(0, a, a, false, 6));
            DUE.same("all kept", x.row(6), x.row(0));
        }
    }

    private static void wholeLayer() {
        DUE.sentence("layer: from a to b (0 .. 20, ..)");
        House x = some();
        DUE.yes("layer(0, 0, 20, true, 6)", x.layer(0, 0, 20, true, 6));
        DUE.same("all given on", x.row(6), x.row(0));
        DUE.yes("layer(0, 0, 20, false, 6)", x.layer(0, 0, 20, false, 6));
        DUE.same("nothing kept", x.row(6), "0:1000");
        DUE.yes("layer(0, 19, 20, true, 6)", x.layer(0, 19, 20, true, 6));
        DUE.same("the topmost", x.row(6), "0:850 1:150");
        DUE.yes("layer(0, 0, 1, true, 6)", x.layer(0, 0, 1, true, 6));
        DUE.same("the lowest", x.row(6), "0:100 1:900");
    }

    private static void layerOutside() {
        DUE.sentence("layer: false if that can't be.");
        int[][] wrong = {{-1, 7}, {4, 21}, {8, 7}, {1, 0}, {20, 19}, {21, 21}, {-1, -1}, {21, 20}, {-1, 21}, {20, 0},
            {MIN, 7}, {MAX, 7}, {4, MIN}, {4, MAX}, {MIN, MAX}, {MAX, MIN}, {MIN, MIN}, {MAX, MAX}};
        for (int[] w : wrong) {
            for (boolean given : new boolean[] {false, true}) {
                House x = some();
                String call = "layer(0, " + w[0] + ", " + w[1] + ", " + given + ", 6)";
                DUE.no(call, x.layer(0, w[0], w[1], given, 6));
                DUE.same(call + " leaves", x.row(6), "7:77");
            }
        }
    }

    private static void layerBooks() {
        DUE.sentence("layer: BOOK to becomes what is kept of a RIGHT BOOK ..; false if that can't be.");
        House x = new House().with(0, 20, 1000).with(7, 9, 1000).with(1, 20, 999).with(2, 20, 1000, 0, 1).with(5, 3, 33);
        for (int book : new int[] {-1, 8, MIN, MAX, 1, 2, 3}) {
            DUE.no("layer(" + book + ", 4, 7, false, 5)", x.layer(book, 4, 7, false, 5));
            DUE.no("layer(" + book + ", 4, 7, true, 5)", x.layer(book, 4, 7, true, 5));
            DUE.same("as it was", x.row(5), "3:33");
        }
        for (int to : new int[] {-1, 8, MIN, MAX}) {
            DUE.no("layer(0, 4, 7, false, " + to + ")", x.layer(0, 4, 7, false, to));
        }
        DUE.yes("from 7 to 0", x.layer(7, 4, 7, true, 0));
        DUE.same("from 7 to 0", x.row(0), "3:1000");
        DUE.yes("from 0 to 7", x.layer(0, 1, 2, true, 7));
        DUE.same("from 0 to 7", x.row(7), "1:1000");
        DUE.yes("to one that isn't RIGHT", x.layer(7, 0, 0, false, 2));
        DUE.same("which it is now", x.row(2), "1:1000");
    }

    private static void layerOntoItself() {
        DUE.sentence("layer: BOOK to becomes what is kept of a RIGHT BOOK, or (given) what is given on");
        House x = some();
        DUE.yes("given on, onto itself", x.layer(0, 4, 7, true, 0));
        DUE.same("given on, onto itself", x.row(0), "0:300 1:300 3:400");
        House y = some();
        DUE.yes("kept, onto itself", y.layer(0, 4, 7, false, 0));
        DUE.same("kept, onto itself", y.row(0), "0:100 3:200 4:300 5:250 17:150");
    }

    private static void partByHand() {
        DUE.sentence("PARTED by share: kept is s times share by 100, cut; given on the rest.");
        House x = some();
        DUE.yes("part kept", x.part(0, 40, false, 6));
        DUE.same("kept of 40", x.row(6), "0:100 1:200 2:300 3:250 8:150");
        DUE.yes("part given", x.part(0, 40, true, 6));
        DUE.same("given on of 40", x.row(6), "0:100 2:200 3:300 5:250 12:150");
        DUE.same("the book itself stays", x.row(0), "0:100 3:200 5:300 8:250 20:150");
    }

    private static void everyShare() {
        DUE.sentence("part: Likewise of one that is PARTED by share (0 .. 100): true");
        for (int share = 0; share <= 100; share++) {
            int[] kept = new int[21];
            int[] given = new int[21];
            for (int s = 0; s <= 20; s++) {
                int stays = 0;
                for (int hundreds = 100; hundreds <= s * share; hundreds += 100) stays++;
                kept[stays] += fullParts(s);
                given[s - stays] += fullParts(s);
            }
            House x = full();
            DUE.yes("part(0, " + share + ", false, 6)", x.part(0, share, false, 6));
            DUE.same("kept of " + share, x.row(6), text(kept));
            DUE.yes("RIGHT", x.right(6));
            DUE.yes("part(0, " + share + ", true, 6)", x.part(0, share, true, 6));
            DUE.same("given on of " + share, x.row(6), text(given));
            DUE.yes("RIGHT", x.right(6));
        }
    }

    private static void cut() {
        DUE.sentence("kept is s times share by 100, cut");
        House x = new House().with(0, 1, 250, 3, 250, 19, 250, 20, 250);
        x.part(0, 99, false, 6);
        DUE.same("99 of 100", x.row(6), "0:250 2:250 18:250 19:250");
        x.part(0, 99, true, 6);
        DUE.same("the rest of 99", x.row(6), "1:1000");
        x.part(0, 5, false, 6);
        DUE.same("5 of 100", x.row(6), "0:750 1:250");
        x.part(0, 4, false, 6);
        DUE.same("4 of 100", x.row(6), "0:1000");
        x.part(0, 33, false, 6);
        DUE.same("33 of 100", x.row(6), "0:500 6:500");
        x.part(0, 34, false, 6);
        DUE.same("34 of 100", x.row(6), "0:250 1:250 6:500");
    }

    private static void shareEdges() {
        DUE.sentence("part: PARTED by share (0 .. 100)");
        House x = some();
        DUE.yes("share 0", x.part(0, 0, false, 6));
        DUE.same("kept of 0", x.row(6), "0:1000");
        DUE.yes("share 0", x.part(0, 0, true, 6));
        DUE.same("given on of 0", x.row(6), x.row(0));
        DUE.yes("share 100", x.part(0, 100, false, 6));
        DUE.same("kept of 100", x.row(6), x.row(0));
        DUE.yes("share 100", x.part(0, 100, true, 6));
        DUE.same("given on of 100", x.row(6), "0:1000");
    }

    private static void shareOutside() {
        DUE.sentence("part: false if that can't be.");
        for (int share : new int[] {-1, 101, -100, 200, MIN, MAX, MIN + 50, 256 + 50, 65536 + 50}) {
            for (boolean given : new boolean[] {false, true}) {
                House x = some();
                DUE.no("part(0, " + share + ", " + given + ", 6)", x.part(0, share, given, 6));
                DUE.same("as it was", x.row(6), "7:77");
            }
        }
    }

    private static void partBooks() {
        DUE.sentence("part: Likewise .. of a RIGHT BOOK; false if that can't be.");
        House x = new House().with(0, 20, 1000).with(7, 9, 1000).with(1, 20, 999).with(2, 20, 1000, 0, 1).with(5, 3, 33);
        for (int book : new int[] {-1, 8, MIN, MAX, 1, 2, 3}) {
            DUE.no("part(" + book + ", 50, false, 5)", x.part(book, 50, false, 5));
            DUE.no("part(" + book + ", 50, true, 5)", x.part(book, 50, true, 5));
            DUE.same("as it was", x.row(5), "3:33");
        }
        for (int to : new int[] {-1, 8, MIN, MAX}) {
            DUE.no("part(0, 50, false, " + to + ")", x.part(0, 50, false, to));
        }
        DUE.yes("from 7 to 0", x.part(7, 50, true, 0));
        DUE.same("from 7 to 0", x.row(0), "5:1000");
        DUE.yes("from 0 to 7", x.part(0, 50, false, 7));
        DUE.same("from 0 to 7", x.row(7), "2:1000");
        DUE.yes("to one that isn't RIGHT", x.part(7, 100, false, 2));
        DUE.same("which it is now", x.row(2), "2:1000");
    }

    private static void partOntoItself() {
        DUE.sentence("part: Likewise: BOOK to becomes what is kept, or (given) what is given on");
        House x = some();
        DUE.yes("kept, onto itself", x.part(0, 40, false, 0));
        DUE.same("kept, onto itself", x.row(0), "0:100 1:200 2:300 3:250 8:150");
        House y = some();
        DUE.yes("given on, onto itself", y.part(0, 40, true, 0));
        DUE.same("given on, onto itself", y.row(0), "0:100 2:200 3:300 5:250 12:150");
    }
}
