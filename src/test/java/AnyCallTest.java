import java.util.Random;

/**
 * Rules 7 and 13 of LANGUAGE.md: no call may ever throw, for any arguments in any state, behind the
 * 512th call too; and the same calls always give the same answers, whatever another object does.
 */
public final class AnyCallTest {
    private static final Due DUE = new Due("AnyCallTest");
    private static final int[] ENDS = {Integer.MIN_VALUE, Integer.MIN_VALUE + 1, -65536, -21, -2, -1, 0, 1, 2, 7, 8, 12, 13, 16,
        20, 21, 40, 41, 60, 61, 100, 101, 120, 121, 999, 1000, 1001, 65535, 65536, 999999, 1000000, 1000001,
        Integer.MAX_VALUE - 1, Integer.MAX_VALUE};

    public static void main(String[] args) {
        for (int run = 0; run < 60; run++) {
            RuinHouse x = new RuinHouse();
            RuinHouse y = new RuinHouse();
            Random seeds = new Random(run);
            for (int k = 0; k < 700; k++) {
                long seed = seeds.nextLong();
                if (k % 60 == run % 60) fill(x, y, new Random(seed));
                // Between the two calls a third object is used, which must not be felt.
                String first = told(x, seed);
                told(new RuinHouse(), seed + 1);
                DUE.same("run " + run + " call " + k, told(y, seed), first);
                DUE.no("run " + run + " call " + k + " threw " + first, first.contains("Exception"));
            }
        }
        DUE.end();
    }

    /** Some books become RIGHT, so that not all is refused. */
    private static void fill(RuinHouse x, RuinHouse y, Random random) {
        for (int book = 0; book < 8; book += 1 + random.nextInt(3)) {
            int[] row = new int[21];
            for (int k = 0; k < 1000; k += 50) row[random.nextInt(1 + random.nextInt(21))] += 50;
            for (int size = 0; size <= 20; size++) {
                x.set(book, size, row[size]);
                y.set(book, size, row[size]);
            }
        }
    }

    private static String told(RuinHouse x, long seed) {
        try {
            return Integer.toString(call(x, new Random(seed)));
        } catch (RuntimeException e) {
            return e.toString();
        }
    }

    private static int call(RuinHouse x, Random random) {
        int kind = random.nextInt(16);
        int a = any(random);
        int b = any(random);
        int c = any(random);
        int d = any(random);
        int e = any(random);
        boolean yes = random.nextBoolean();
        switch (kind) {
            case 0: return bit(x.set(a, b, c));
            case 1: return x.parts(a, b);
            case 2: return bit(x.right(a));
            case 3: return x.told(a, b, c);
            case 4: return bit(x.layer(a, b, c, yes, d));
            case 5: return bit(x.part(a, b, yes, c));
            case 6: return bit(x.ruin(a, b, c, d));
            case 7: return x.at(a, b);
            case 8: return x.deep(a, b);
            case 9: return bit(x.ever(a, b));
            case 10: return x.worth(a, b, c, d, e);
            case 11: return bit(x.two(a, b, c, d, yes));
            case 12: return x.digit(a);
            case 13: return x.decimals();
            case 14: return x.just(a, b, c, d);
            default: return bit(x.lighter(a, b));
        }
    }

    private static int any(Random random) {
        int kind = random.nextInt(12);
        if (kind == 0) return random.nextInt();
        return kind <= 2 ? ENDS[random.nextInt(ENDS.length)] : random.nextInt(kind <= 8 ? 7 : 21);
    }

    private static int bit(boolean answer) {
        return answer ? 1 : 0;
    }
}
