import java.util.ArrayDeque;
import java.util.Random;

/**
 * Random runs of 512 calls each, every answer compared with Slow's: all promises, edges and wrong
 * inputs. Each step is one call; what should come right behind it waits in a queue.
 */
public final class RandomRunsTest {
    private static final Due DUE = new Due("RandomRunsTest");
    private static final Random RANDOM = new Random(20261118L);

    private final House x = new House();
    private final Slow y = new Slow();
    private final ArrayDeque<Runnable> next = new ArrayDeque<>();
    private final int run;

    private RandomRunsTest(int run) {
        this.run = run;
    }

    public static void main(String[] args) {
        for (int run = 1; run <= 250; run++) {
            new RandomRunsTest(run).go();
        }
        DUE.end();
    }

    private void go() {
        for (int book = 0; book < 6; book++) {
            if (RANDOM.nextInt(8) > 0) fill(book);
        }
        while (x.calls() < House.MOST_CALLS) {
            if (next.isEmpty()) choose();
            if (!next.isEmpty()) next.remove().run();
        }
    }

    /** Mostly within the bounds, often at them, at times outside. */
    private static int pick(int least, int most) {
        int kind = RANDOM.nextInt(32);
        if (kind == 0) return least - 1;
        if (kind == 1) return most + 1;
        if (kind == 2) return RANDOM.nextBoolean() ? Integer.MIN_VALUE : Integer.MAX_VALUE;
        if (kind <= 5) return least;
        if (kind <= 8) return most;
        return least + RANDOM.nextInt(Math.max(most - least + 1, 1));
    }

    private static int book() {
        int kind = RANDOM.nextInt(30);
        return kind == 0 ? -1 : kind == 1 ? 8 : kind == 2 ? 7 : RANDOM.nextInt(6);
    }

    private void same(String call, long got, long want) {
        DUE.same("run " + run + " call " + x.calls() + " " + call, got, want);
    }

    private void same(String call, boolean got, boolean want) {
        same(call, got ? 1L : 0L, want ? 1L : 0L);
    }

    private void set(int book, int size, int parts) {
        same("set(" + book + ", " + size + ", " + parts + ")", x.set(book, size, parts), y.set(book, size, parts));
    }

    /** Queues a RIGHT row for a book: only what differs is set. */
    private void fill(int book) {
        int[] row = new int[21];
        int kinds = 1 + RANDOM.nextInt(RANDOM.nextBoolean() ? 4 : 21);
        int top = RANDOM.nextInt(21);
        int left = 1000;
        if (RANDOM.nextInt(3) > 0) {
            row[0] = RANDOM.nextInt(1001);
            left -= row[0];
        }
        for (int i = 1; i < kinds; i++) {
            int some = RANDOM.nextInt(left + 1) / 2;
            row[RANDOM.nextInt(top + 1)] += some;
            left -= some;
        }
        row[RANDOM.nextInt(3) == 0 ? top : RANDOM.nextInt(2)] += left;
        for (int size = 0; size <= 20; size++) {
            int at = size;
            if (y.parts(book, size) != row[size]) next.add(() -> set(book, at, row[at]));
        }
    }

    private void choose() {
        switch (RANDOM.nextInt(19)) {
            case 0 -> next.add(() -> set(pick(0, 7), pick(0, 20), pick(0, 1000)));
            case 1 -> fill(RANDOM.nextInt(6));
            case 2 -> next.add(this::told);
            case 3 -> next.add(this::layer);
            case 4 -> next.add(this::part);
            case 5, 6 -> ruin();
            case 7, 8 -> ever();
            case 9, 10 -> worth();
            case 11, 12 -> two();
            case 13 -> next.add(this::just);
            case 14 -> next.add(this::lighter);
            case 15 -> digits(2);
            case 16 -> whenAndHowDeep(2);
            case 17 -> rows(pick(0, 7));
            default -> next.add(this::right);
        }
    }

    private void told() {
        int b = book();
        int what = pick(0, 2);
        int d = pick(0, 20);
        same("told(" + b + ", " + what + ", " + d + ")", x.told(b, what, d), y.told(b, what, d));
    }

    private void right() {
        int b = pick(0, 7);
        same("right(" + b + ")", x.right(b), y.right(b));
    }

    private void rows(int b) {
        for (int k = 0; k < 4; k++) {
            int size = pick(0, 20);
            next.add(() -> same("parts(" + b + ", " + size + ")", x.parts(b, size), y.parts(b, size)));
        }
    }

    private void layer() {
        int b = book();
        int from = pick(0, 20);
        int up = RANDOM.nextInt(8) == 0 ? pick(0, 20) : Math.min(20, from / 2 + RANDOM.nextInt(20));
        boolean given = RANDOM.nextBoolean();
        int to = pick(0, 6);
        same("layer(" + b + ", " + from + ", " + up + ", " + given + ", " + to + ")",
                x.layer(b, from, up, given, to), y.layer(b, from, up, given, to));
        rows(to);
    }

    private void part() {
        int b = book();
        int share = pick(0, 100);
        boolean given = RANDOM.nextBoolean();
        int to = pick(0, 6);
        same("part(" + b + ", " + share + ", " + given + ", " + to + ")",
                x.part(b, share, given, to), y.part(b, share, given, to));
        rows(to);
    }

    private void ruin() {
        int b = book();
        int purse = pick(0, RANDOM.nextBoolean() ? 100 : 20);
        int premium = pick(0, RANDOM.nextBoolean() ? 20 : 4);
        int n = pick(1, RANDOM.nextInt(4) == 0 ? 40 : 9);
        next.add(() -> same("ruin(" + purse + ", " + premium + ", " + b + ", " + n + ")",
                x.ruin(purse, premium, b, n), y.ruin(purse, premium, b, n)));
        next.add(() -> whenAndHowDeep(8));
        next.add(() -> digits(6));
    }

    private void whenAndHowDeep(int many) {
        int most = Math.max(y.ticks(), 1);
        for (int k = 0; k < many; k++) {
            int t = pick(1, most);
            int depth = pick(1, 20);
            int i = pick(1, 3 * most);
            if (RANDOM.nextBoolean()) {
                next.add(() -> same("at(" + t + ", " + i + ")", x.at(t, i), y.at(t, i)));
            } else {
                next.add(() -> same("deep(" + depth + ", " + i + ")", x.deep(depth, i), y.deep(depth, i)));
            }
        }
    }

    private void ever() {
        int b = book();
        int purse = pick(0, 60);
        next.add(() -> same("ever(" + purse + ", " + b + ")", x.ever(purse, b), y.ever(purse, b)));
        next.add(() -> digits(6));
    }

    private void worth() {
        int b = book();
        int purse = pick(0, 60);
        int premium = pick(0, RANDOM.nextBoolean() ? 20 : 4);
        int keep = RANDOM.nextBoolean() ? pick(900, 1000) : pick(0, 1000);
        int n = pick(0, 6);
        next.add(() -> same("worth(" + purse + ", " + premium + ", " + b + ", " + keep + ", " + n + ")",
                x.worth(purse, premium, b, keep, n), y.worth(purse, premium, b, keep, n)));
        next.add(() -> digits(6));
    }

    private void two() {
        int what = pick(0, 12) + 16 * pick(0, 12) + 256 * pick(0, 6) + 4096 * pick(0, 6);
        int first = book();
        int second = book();
        int n = pick(1, RANDOM.nextInt(4) == 0 ? 5 : 3);
        boolean help = RANDOM.nextInt(3) > 0;
        next.add(() -> same("two(" + what + ", " + first + ", " + second + ", " + n + ", " + help + ")",
                x.two(what, first, second, n, help), y.two(what, first, second, n, help)));
        next.add(() -> digits(6));
    }

    private void just() {
        int b = book();
        int purse = pick(0, RANDOM.nextBoolean() ? 100 : 12);
        int n = pick(1, 12);
        int millionths = pick(0, 1000000);
        if (y.right(b) && purse >= 0 && purse <= 100 && n >= 1 && n <= 12 && RANDOM.nextInt(4) > 0) {
            millionths = y.millionths(purse, RANDOM.nextInt(12), b, n) + RANDOM.nextInt(3) - 1;
        }
        same("just(" + purse + ", " + b + ", " + n + ", " + millionths + ")",
                x.just(purse, b, n, millionths), y.just(purse, b, n, millionths));
    }

    private void lighter() {
        int b = book();
        int c = book();
        same("lighter(" + b + ", " + c + ")", x.lighter(b, c), y.lighter(b, c));
    }

    private void digits(int many) {
        next.add(() -> same("decimals()", x.decimals(), y.decimals()));
        for (int k = 0; k < many; k++) {
            int i = pick(0, y.decimals());
            next.add(() -> same("digit(" + i + ")", x.digit(i), y.digit(i)));
        }
    }
}
