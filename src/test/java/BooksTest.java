/** Promises 1 to 4 and the first sentence of the terms' part 1: BOOKS, SIZES, PARTS, RIGHT. */
public final class BooksTest {
    private static final Due DUE = new Due("BooksTest");
    private static final int MIN = Integer.MIN_VALUE;
    private static final int MAX = Integer.MAX_VALUE;

    public static void main(String[] args) {
        withoutParts();
        objectsAreApart();
        booksAndSizesAreApart();
        leastAndGreatest();
        oneBeyond();
        refusedKeepsParts();
        latestSetCounts();
        rightAtThousand();
        rightWithOneSize();
        rightWithAllSizes();
        rightComesAndGoes();
        rightOfNoBook();
        DUE.end();
    }

    private static void withoutParts() {
        DUE.sentence("RuinHouse(): BOOKS without PARTS.");
        House x = new House();
        for (int book = 0; book <= 7; book++) {
            for (int size = 0; size <= 20; size++) {
                DUE.same("new: parts(" + book + ", " + size + ")", x.parts(book, size), 0);
            }
            DUE.no("new: right(" + book + ")", x.right(book));
            DUE.none("new: told(" + book + ", 0, 0)", x.told(book, 0, 0));
            DUE.no("new: ruin(0, 0, " + book + ", 1)", x.ruin(0, 0, book, 1));
        }
    }

    private static void objectsAreApart() {
        DUE.sentence("RuinHouse(): BOOKS without PARTS.");
        House x = new House().with(3, 4, 1000);
        x.ruin(0, 0, 3, 2);
        House y = new House();
        DUE.same("another new one: parts(3, 4)", y.parts(3, 4), 0);
        DUE.same("another new one: decimals()", y.decimals(), 0);
        DUE.none("another new one: at(1, 1)", y.at(1, 1));
        y.set(3, 4, 7);
        DUE.same("the first one: parts(3, 4)", x.parts(3, 4), 1000);
    }

    /** Each size of each book has a number of its own, and keeps it. */
    private static void booksAndSizesAreApart() {
        DUE.sentence("BOOKS 0 .. 7 have PARTS (0 .. 1000) for each SIZE 0 .. 20");
        House x = new House();
        for (int book = 0; book <= 7; book++) {
            for (int size = 0; size <= 20; size++) {
                DUE.yes("set(" + book + ", " + size + ", ..)", x.set(book, size, 100 * book + size));
            }
        }
        for (int book = 0; book <= 7; book++) {
            for (int size = 0; size <= 20; size++) {
                DUE.same("parts(" + book + ", " + size + ")", x.parts(book, size), 100 * book + size);
            }
        }
    }

    private static void leastAndGreatest() {
        DUE.sentence("set: A SIZE has PARTS in a BOOK: true");
        int[][] edges = {{0, 0, 0}, {0, 0, 1}, {0, 0, 999}, {0, 0, 1000}, {0, 20, 1000}, {7, 0, 1000}, {7, 20, 1000},
            {7, 20, 0}, {3, 10, 1000}};
        for (int[] e : edges) {
            House x = new House();
            DUE.yes("set" + java.util.Arrays.toString(e), x.set(e[0], e[1], e[2]));
            DUE.same("parts behind set" + java.util.Arrays.toString(e), x.parts(e[0], e[1]), e[2]);
        }
    }

    private static void oneBeyond() {
        House x = new House();
        DUE.sentence("set: false if there is none such, or no such PARTS.");
        int[][] wrong = {{-1, 0, 1}, {8, 0, 1}, {3, -1, 1}, {3, 21, 1}, {3, 4, -1}, {3, 4, 1001}, {-1, 0, 0}, {8, 0, 0},
            {3, -1, 0}, {3, 21, 0}, {-1, -1, -1}, {8, 21, 1001}, {MIN, 4, 1}, {MAX, 4, 1}, {3, MIN, 1}, {3, MAX, 1},
            {3, 4, MIN}, {3, 4, MAX}, {MIN, MIN, MIN}, {MAX, MAX, MAX}};
        for (int[] w : wrong) {
            DUE.no("set" + java.util.Arrays.toString(w), x.set(w[0], w[1], w[2]));
        }
        DUE.sentence("parts: NONE if there is none such.");
        int[][] none = {{-1, 0}, {8, 0}, {0, -1}, {0, 21}, {7, -1}, {7, 21}, {-1, 20}, {8, 20}, {-1, -1}, {8, 21},
            {MIN, 0}, {MAX, 0}, {0, MIN}, {0, MAX}, {MIN, MAX}, {MAX, MIN}};
        for (int[] w : none) {
            DUE.none("parts" + java.util.Arrays.toString(w), x.parts(w[0], w[1]));
        }
    }

    private static void refusedKeepsParts() {
        DUE.sentence("What is refused changes nothing.");
        for (int parts : new int[] {-1, 1001, MIN, MAX, 1000 + 65536, -1000}) {
            House x = new House().with(3, 4, 5, 20, 6).with(4, 0, 7);
            DUE.no("set(3, 4, " + parts + ")", x.set(3, 4, parts));
            DUE.same("the row as it was", x.row(3), "4:5 20:6");
            // A row of 21 sizes: size 21 of one book must not be size 0 of the next one.
            DUE.no("set(3, 21, 9)", x.set(3, 21, 9));
            DUE.no("set(4, -1, 9)", x.set(4, -1, 9));
            DUE.same("the next row as it was", x.row(4), "0:7");
            DUE.same("the row as it was", x.row(3), "4:5 20:6");
        }
    }

    private static void latestSetCounts() {
        DUE.sentence("parts: The PARTS of a SIZE");
        House x = new House();
        for (int parts : new int[] {1000, 17, 0, 1, 999}) {
            x.set(5, 20, parts);
            DUE.same("parts(5, 20)", x.parts(5, 20), parts);
        }
    }

    /** For each size: the thousandth part is its one, or the one too many. */
    private static void rightAtThousand() {
        DUE.sentence("a BOOK is RIGHT if they are 1000 together");
        for (int size = 0; size <= 20; size++) {
            int other = (size + 7) % 21;
            for (int book = 0; book <= 7; book++) {
                House x = new House().with(book, other, 999);
                DUE.no("right at 999", x.right(book));
                x.set(book, size, 1);
                DUE.yes("right at 1000 with size " + size, x.right(book));
                x.set(book, size, 2);
                DUE.no("right at 1001 with size " + size, x.right(book));
            }
        }
    }

    private static void rightWithOneSize() {
        DUE.sentence("a BOOK is RIGHT if they are 1000 together");
        for (int size = 0; size <= 20; size++) {
            House x = new House().with(2, size, 1000);
            DUE.yes("all in size " + size, x.right(2));
            DUE.no("another book", x.right(1));
            x.set(2, size, 999);
            DUE.no("999 in size " + size, x.right(2));
        }
    }

    private static void rightWithAllSizes() {
        DUE.sentence("a BOOK is RIGHT if they are 1000 together");
        House x = new House();
        for (int size = 0; size <= 20; size++) {
            x.set(0, size, 47);
            x.set(1, size, 1000);
            x.set(2, size, 48);
        }
        DUE.no("21 times 47 are 987", x.right(0));
        x.set(0, 20, 47 + 13);
        DUE.yes("1000 in all sizes", x.right(0));
        DUE.no("21 times 1000", x.right(1));
        DUE.no("21 times 48 are 1008", x.right(2));
        x.set(2, 0, 40);
        DUE.yes("1000 in all sizes", x.right(2));
    }

    private static void rightComesAndGoes() {
        DUE.sentence("right: Whether a BOOK is RIGHT");
        House x = new House().with(2, 3, 1000);
        DUE.yes("set(2, 4, 1000), above 1000 together", x.set(2, 4, 1000));
        DUE.no("2000 together", x.right(2));
        x.set(2, 3, 0);
        DUE.yes("1000 again", x.right(2));
        x.set(2, 4, 0);
        DUE.no("none", x.right(2));
    }

    private static void rightOfNoBook() {
        DUE.sentence("right: false if there is none such.");
        House x = new House();
        for (int book = 0; book <= 7; book++) {
            x.set(book, 0, 1000);
        }
        for (int book : new int[] {-1, 8, 9, MIN, MAX, 256, 65536}) {
            DUE.no("right(" + book + ")", x.right(book));
        }
    }
}
