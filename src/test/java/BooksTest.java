/** Promises 1 to 7 and 17: books, what is told of them, layers, parts, lighter. */
public final class BooksTest {
    private static final Due DUE = new Due("BooksTest");

    public static void main(String[] args) {
        newObject();
        setAndParts();
        right();
        told();
        layer();
        part();
        lighter();
        DUE.end();
    }

    private static void newObject() {
        RuinHouse x = new RuinHouse();
        for (int book = 0; book <= 7; book++) {
            DUE.no("new: right(" + book + ")", x.right(book));
            DUE.same("new: told", x.told(book, 0, 0), RuinHouse.NONE);
            for (int size = 0; size <= 20; size++) {
                DUE.same("new: parts(" + book + ", " + size + ")", x.parts(book, size), 0);
            }
        }
        DUE.same("new: decimals()", x.decimals(), 0);
        DUE.same("new: digit(0)", x.digit(0), 0);
        DUE.same("new: digit(1)", x.digit(1), RuinHouse.NONE);
        DUE.same("new: at(1, 1)", x.at(1, 1), RuinHouse.NONE);
        DUE.same("new: deep(1, 1)", x.deep(1, 1), RuinHouse.NONE);
        DUE.no("new: ruin(0, 0, 0, 1)", x.ruin(0, 0, 0, 1));
    }

    private static void setAndParts() {
        RuinHouse x = new RuinHouse();
        DUE.yes("set(0, 0, 0)", x.set(0, 0, 0));
        DUE.yes("set(7, 20, 1000)", x.set(7, 20, 1000));
        DUE.yes("set(3, 4, 5)", x.set(3, 4, 5));
        DUE.yes("set(3, 5, 1000)", x.set(3, 5, 1000));
        DUE.yes("set(3, 5, 17)", x.set(3, 5, 17));
        DUE.same("parts(7, 20)", x.parts(7, 20), 1000);
        DUE.same("parts(3, 4)", x.parts(3, 4), 5);
        DUE.same("parts(3, 5)", x.parts(3, 5), 17);
        DUE.same("parts(4, 5)", x.parts(4, 5), 0);
        int[][] wrong = {{-1, 0, 1}, {8, 0, 1}, {3, -1, 1}, {3, 21, 1}, {3, 4, -1}, {3, 4, 1001},
            {Integer.MIN_VALUE, 4, 1}, {Integer.MAX_VALUE, 4, 1}, {3, Integer.MIN_VALUE, 1},
            {3, Integer.MAX_VALUE, 1}, {3, 4, Integer.MIN_VALUE}, {3, 4, Integer.MAX_VALUE}};
        for (int[] w : wrong) {
            DUE.no("set(" + w[0] + ", " + w[1] + ", " + w[2] + ")", x.set(w[0], w[1], w[2]));
        }
        DUE.same("parts(3, 4) as it was", x.parts(3, 4), 5);
        DUE.same("parts(-1, 0)", x.parts(-1, 0), -1);
        DUE.same("parts(8, 0)", x.parts(8, 0), -1);
        DUE.same("parts(0, -1)", x.parts(0, -1), -1);
        DUE.same("parts(0, 21)", x.parts(0, 21), -1);
    }

    private static void right() {
        RuinHouse x = new RuinHouse();
        x.set(2, 3, 999);
        DUE.no("right at 999", x.right(2));
        x.set(2, 20, 1);
        DUE.yes("right at 1000", x.right(2));
        x.set(2, 0, 1);
        DUE.no("right at 1001", x.right(2));
        DUE.no("right(1)", x.right(1));
        DUE.no("right(-1)", x.right(-1));
        DUE.no("right(8)", x.right(8));
        DUE.no("right(MIN)", x.right(Integer.MIN_VALUE));
    }

    private static void told() {
        RuinHouse x = new RuinHouse();
        Due.fill(x, 1, 0, 500, 3, 300, 20, 200);
        DUE.same("MEAN", x.told(1, 0, 0), 4900);
        DUE.same("MEAN, whatever d", x.told(1, 0, -7), 4900);
        DUE.same("SPREAD", x.told(1, 1, 0), 1000 * (9 * 300 + 400 * 200) - 4900 * 4900);
        DUE.same("SPREAD, whatever d", x.told(1, 1, 99), 1000 * (9 * 300 + 400 * 200) - 4900 * 4900);
        DUE.same("STOP at 0", x.told(1, 2, 0), 4900);
        DUE.same("STOP at 2", x.told(1, 2, 2), 300 + 18 * 200);
        DUE.same("STOP at 3", x.told(1, 2, 3), 17 * 200);
        DUE.same("STOP at 19", x.told(1, 2, 19), 200);
        DUE.same("STOP at 20", x.told(1, 2, 20), 0);
        DUE.same("STOP at 21", x.told(1, 2, 21), -1);
        DUE.same("STOP at -1", x.told(1, 2, -1), -1);
        DUE.same("what 3", x.told(1, 3, 0), -1);
        DUE.same("what -1", x.told(1, -1, 0), -1);
        DUE.same("no such book", x.told(8, 0, 0), -1);
        DUE.same("no such book", x.told(-1, 0, 0), -1);
        DUE.same("not right", x.told(2, 0, 0), -1);
        Due.fill(x, 2, 20, 1000);
        DUE.same("MEAN of all 20", x.told(2, 0, 0), 20000);
        DUE.same("SPREAD of all 20", x.told(2, 1, 0), 0);
        Due.fill(x, 2, 0, 500, 20, 500);
        DUE.same("the widest SPREAD", x.told(2, 1, 0), 100000000);
    }

    private static String row(RuinHouse x, int book) {
        StringBuilder text = new StringBuilder();
        for (int size = 0; size <= 20; size++) {
            if (x.parts(book, size) != 0) {
                text.append(size).append(':').append(x.parts(book, size)).append(' ');
            }
        }
        return text.toString().trim();
    }

    private static void layer() {
        RuinHouse x = new RuinHouse();
        Due.fill(x, 0, 0, 100, 3, 200, 5, 300, 8, 250, 20, 150);
        Due.fill(x, 6, 7, 77);
        DUE.yes("layer kept", x.layer(0, 4, 7, false, 6));
        DUE.same("kept above 4 to 7", row(x, 6), "0:100 3:200 4:300 5:250 17:150");
        DUE.yes("layer given", x.layer(0, 4, 7, true, 6));
        DUE.same("given on above 4 to 7", row(x, 6), "0:300 1:300 3:400");
        DUE.yes("an empty layer", x.layer(0, 5, 5, true, 6));
        DUE.same("given on of an empty layer", row(x, 6), "0:1000");
        DUE.yes("all", x.layer(0, 0, 20, true, 6));
        DUE.same("all given on", row(x, 6), row(x, 0));
        DUE.yes("all, kept", x.layer(0, 0, 20, false, 6));
        DUE.same("nothing kept", row(x, 6), "0:1000");
        DUE.yes("to 20", x.layer(0, 20, 20, false, 7));
        DUE.same("all kept", row(x, 7), row(x, 0));
        String was = row(x, 7);
        DUE.no("a above b", x.layer(0, 8, 7, false, 7));
        DUE.no("a below 0", x.layer(0, -1, 7, false, 7));
        DUE.no("b above 20", x.layer(0, 4, 21, false, 7));
        DUE.no("a and b above 20", x.layer(0, 21, 21, false, 7));
        DUE.no("not right", x.layer(5, 4, 7, false, 7));
        DUE.no("no such book", x.layer(8, 4, 7, false, 7));
        DUE.no("no such book", x.layer(-1, 4, 7, false, 7));
        DUE.no("no such target", x.layer(0, 4, 7, false, 8));
        DUE.no("no such target", x.layer(0, 4, 7, false, -1));
        DUE.no("extremes", x.layer(0, Integer.MIN_VALUE, Integer.MAX_VALUE, true, 7));
        DUE.same("as it was", row(x, 7), was);
        DUE.yes("onto itself", x.layer(0, 4, 7, true, 0));
        DUE.same("onto itself", row(x, 0), "0:300 1:300 3:400");
    }

    private static void part() {
        RuinHouse x = new RuinHouse();
        Due.fill(x, 0, 0, 100, 3, 200, 5, 300, 8, 250, 20, 150);
        Due.fill(x, 6, 7, 77);
        DUE.yes("part kept", x.part(0, 40, false, 6));
        DUE.same("kept of 40", row(x, 6), "0:100 1:200 2:300 3:250 8:150");
        DUE.yes("part given", x.part(0, 40, true, 6));
        DUE.same("given on of 40", row(x, 6), "0:100 2:200 3:300 5:250 12:150");
        DUE.yes("share 0", x.part(0, 0, false, 6));
        DUE.same("kept of 0", row(x, 6), "0:1000");
        DUE.yes("share 100", x.part(0, 100, false, 6));
        DUE.same("kept of 100", row(x, 6), row(x, 0));
        DUE.yes("share 99", x.part(0, 99, false, 6));
        DUE.same("cut", row(x, 6), "0:100 2:200 4:300 7:250 19:150");
        String was = row(x, 6);
        DUE.no("share -1", x.part(0, -1, false, 6));
        DUE.no("share 101", x.part(0, 101, false, 6));
        DUE.no("share MAX", x.part(0, Integer.MAX_VALUE, false, 6));
        DUE.no("not right", x.part(5, 50, false, 6));
        DUE.no("no such book", x.part(8, 50, false, 6));
        DUE.no("no such book", x.part(-1, 50, false, 6));
        DUE.no("no such target", x.part(0, 50, false, 8));
        DUE.no("no such target", x.part(0, 50, false, -1));
        DUE.same("as it was", row(x, 6), was);
        DUE.yes("onto itself", x.part(0, 40, false, 0));
        DUE.same("onto itself", row(x, 0), "0:100 1:200 2:300 3:250 8:150");
    }

    private static void lighter() {
        RuinHouse x = new RuinHouse();
        Due.fill(x, 0, 4, 1000);
        Due.fill(x, 1, 0, 500, 8, 500);
        Due.fill(x, 2, 5, 1000);
        Due.fill(x, 3, 0, 999, 20, 1);
        Due.fill(x, 4, 19, 1000);
        DUE.yes("the same mean, less spread", x.lighter(0, 1));
        DUE.no("the same mean, more spread", x.lighter(1, 0));
        DUE.yes("itself", x.lighter(1, 1));
        DUE.yes("less", x.lighter(0, 2));
        DUE.no("neither", x.lighter(1, 2));
        DUE.no("neither", x.lighter(2, 1));
        DUE.no("just at the STOP of 19", x.lighter(3, 4));
        DUE.no("the other way, at the STOP of 0", x.lighter(4, 3));
        DUE.no("not right", x.lighter(5, 0));
        DUE.no("not right", x.lighter(0, 5));
        DUE.no("no such book", x.lighter(-1, 0));
        DUE.no("no such book", x.lighter(0, 8));
    }
}
