import java.util.Random;

/** Random runs of calls, each answer compared with Slow's: all promises, edges and wrong inputs. */
public final class RandomRunsTest {
    private static final Due DUE = new Due("RandomRunsTest");
    private static final Random RANDOM = new Random(20261117L);

    private RuinHouse x = new RuinHouse();
    private Slow y = new Slow();
    private int run;

    public static void main(String[] args) {
        for (int run = 1; run <= 60; run++) {
            RandomRunsTest test = new RandomRunsTest();
            test.run = run;
            test.go();
        }
        DUE.end();
    }

    private void go() {
        for (int book = 0; book < 6; book++) fill(book);
        for (int call = 0; call < 60; call++) one();
    }

    /** Mostly within the bounds, often at them, at times outside. */
    private static int pick(int least, int most) {
        int kind = RANDOM.nextInt(24);
        if (kind == 0) return least - 1;
        if (kind == 1) return most + 1;
        if (kind == 2) return RANDOM.nextBoolean() ? Integer.MIN_VALUE : Integer.MAX_VALUE;
        if (kind <= 5) return least;
        if (kind <= 8) return most;
        return least + RANDOM.nextInt(most - least + 1);
    }

    private static int book() {
        int kind = RANDOM.nextInt(30);
        return kind == 0 ? -1 : kind == 1 ? 8 : kind == 2 ? 7 : RANDOM.nextInt(6);
    }

    private void same(String call, long got, long want) {
        DUE.same("run " + run + " " + call, got, want);
    }

    private void same(String call, boolean got, boolean want) {
        same(call, got ? 1L : 0L, want ? 1L : 0L);
    }

    private void put(int book, int size, int parts) {
        same("set(" + book + ", " + size + ", " + parts + ")", x.set(book, size, parts), y.set(book, size, parts));
    }

    private void fill(int book) {
        int[] row = new int[21];
        int kinds = 1 + RANDOM.nextInt(RANDOM.nextBoolean() ? 4 : 21);
        int top = RANDOM.nextInt(21);
        int left = 1000;
        if (RANDOM.nextInt(3) > 0) {
            row[0] = RANDOM.nextInt(1001);
            left -= row[0];
        }
        for (int i = 1; i < kinds; i++) {
            int some = RANDOM.nextInt(left + 1) / 2;
            row[RANDOM.nextInt(top + 1)] += some;
            left -= some;
        }
        row[RANDOM.nextInt(3) == 0 ? top : RANDOM.nextInt(2)] += left;
        for (int size = 0; size <= 20; size++) put(book, size, row[size]);
    }

    private void one() {
        int kind = RANDOM.nextInt(16);
        if (kind == 0) put(pick(0, 7), pick(0, 20), pick(0, 1000));
        if (kind == 1) fill(RANDOM.nextInt(6));
        if (kind == 2) told();
        if (kind == 3) layer();
        if (kind == 4) part();
        if (kind == 5 || kind == 6) ruin();
        if (kind == 7 || kind == 8) ever();
        if (kind == 9 || kind == 10) worth();
        if (kind == 11 || kind == 12) two();
        if (kind == 13) just();
        if (kind == 14) lighter();
        if (kind == 15) books();
        if (kind >= 5 && kind <= 12) number();
        if (RANDOM.nextInt(4) == 0) number();
    }

    private void told() {
        int b = book();
        int what = pick(0, 2);
        int d = pick(0, 20);
        same("told(" + b + ", " + what + ", " + d + ")", x.told(b, what, d), y.told(b, what, d));
    }

    private void books() {
        for (int b = -1; b <= 8; b++) {
            same("right(" + b + ")", x.right(b), y.right(b));
            for (int s = -1; s <= 21; s++) same("parts(" + b + ", " + s + ")", x.parts(b, s), y.parts(b, s));
        }
    }

    private void layer() {
        int b = book();
        int from = pick(0, 20);
        int up = RANDOM.nextInt(8) == 0 ? pick(0, 20) : Math.min(20, from / 2 + RANDOM.nextInt(20));
        boolean given = RANDOM.nextBoolean();
        int to = pick(0, 6);
        same("layer(" + b + ", " + from + ", " + up + ", " + given + ", " + to + ")",
                x.layer(b, from, up, given, to), y.layer(b, from, up, given, to));
        books();
    }

    private void part() {
        int b = book();
        int share = pick(0, 100);
        boolean given = RANDOM.nextBoolean();
        int to = pick(0, 6);
        same("part(" + b + ", " + share + ", " + given + ", " + to + ")",
                x.part(b, share, given, to), y.part(b, share, given, to));
        books();
    }

    private void ruin() {
        int b = book();
        int purse = pick(0, RANDOM.nextBoolean() ? 100 : 20);
        int premium = pick(0, RANDOM.nextBoolean() ? 20 : 4);
        int n = pick(1, RANDOM.nextInt(4) == 0 ? 40 : 9);
        same("ruin(" + purse + ", " + premium + ", " + b + ", " + n + ")",
                x.ruin(purse, premium, b, n), y.ruin(purse, premium, b, n));
        for (int t = -1; t <= 41; t++) {
            for (int i = -1; i <= 3 * n + 1 && i <= 121; i++) same("at(" + t + ", " + i + ")", x.at(t, i), y.at(t, i));
        }
        for (int k = -1; k <= 21; k++) {
            for (int i = -1; i <= 3 * n + 1 && i <= 121; i++) same("deep(" + k + ", " + i + ")", x.deep(k, i), y.deep(k, i));
        }
    }

    private void ever() {
        int b = book();
        int purse = pick(0, 60);
        same("ever(" + purse + ", " + b + ")", x.ever(purse, b), y.ever(purse, b));
    }

    private void worth() {
        int b = book();
        int purse = pick(0, 60);
        int premium = pick(0, RANDOM.nextBoolean() ? 20 : 4);
        int keep = RANDOM.nextBoolean() ? pick(900, 1000) : pick(0, 1000);
        int n = pick(0, 6);
        same("worth(" + purse + ", " + premium + ", " + b + ", " + keep + ", " + n + ")",
                x.worth(purse, premium, b, keep, n), y.worth(purse, premium, b, keep, n));
    }

    private void two() {
        int what = pick(0, 12) + 16 * pick(0, 12) + 256 * pick(0, 6) + 4096 * pick(0, 6);
        int first = book();
        int second = book();
        int n = pick(1, RANDOM.nextInt(4) == 0 ? 5 : 3);
        boolean help = RANDOM.nextInt(3) > 0;
        same("two(" + what + ", " + first + ", " + second + ", " + n + ", " + help + ")",
                x.two(what, first, second, n, help), y.two(what, first, second, n, help));
    }

    private void just() {
        int b = book();
        int purse = pick(0, RANDOM.nextBoolean() ? 100 : 12);
        int n = pick(1, 12);
        int millionths = pick(0, 1000000);
        if (y.right(b) && purse >= 0 && purse <= 100 && n >= 1 && n <= 12 && RANDOM.nextInt(4) > 0) {
            millionths = y.millionths(purse, RANDOM.nextInt(12), b, n) + RANDOM.nextInt(3) - 1;
        }
        same("just(" + purse + ", " + b + ", " + n + ", " + millionths + ")",
                x.just(purse, b, n, millionths), y.just(purse, b, n, millionths));
    }

    private void lighter() {
        int b = book();
        int c = book();
        same("lighter(" + b + ", " + c + ")", x.lighter(b, c), y.lighter(b, c));
    }

    private void number() {
        same("decimals()", x.decimals(), y.decimals());
        for (int i = -1; i <= y.decimals() + 1; i++) same("digit(" + i + ")", x.digit(i), y.digit(i));
    }
}
