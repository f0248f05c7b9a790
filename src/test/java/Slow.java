import java.math.BigDecimal;
import java.math.BigInteger;
import java.math.RoundingMode;
import java.util.Map;
import java.util.TreeMap;

/** The document's words done as slowly and plainly as can be, to compare with. */
final class Slow {
    private static final BigDecimal THOUSANDTH = new BigDecimal("0.001");

    private final int[][] f = new int[8][21];
    private BigDecimal number = BigDecimal.ZERO;
    private int places = 0;
    private int ticks = 0;
    private BigDecimal[] at = new BigDecimal[0];
    private BigDecimal[] deep = new BigDecimal[0];
    private BigDecimal latest;

    boolean set(int book, int size, int parts) {
        if (book < 0 || book > 7 || size < 0 || size > 20 || parts < 0 || parts > 1000) return false;
        f[book][size] = parts;
        return true;
    }

    int parts(int book, int size) {
        return book < 0 || book > 7 || size < 0 || size > 20 ? -1 : f[book][size];
    }

    boolean right(int book) {
        if (book < 0 || book > 7) return false;
        int sum = 0;
        for (int p : f[book]) sum += p;
        return sum == 1000;
    }

    int told(int book, int what, int d) {
        if (!right(book)) return -1;
        long mean = 0;
        long squares = 0;
        long stop = 0;
        for (int s = 0; s <= 20; s++) {
            mean += s * f[book][s];
            squares += s * s * f[book][s];
            if (s > d) stop += (long) (s - d) * f[book][s];
        }
        if (what == 0) return (int) mean;
        if (what == 1) return (int) (1000 * squares - mean * mean);
        if (what == 2 && d >= 0 && d <= 20) return (int) stop;
        return -1;
    }

    boolean layer(int book, int a, int b, boolean given, int to) {
        if (!right(book) || a < 0 || b < a || b > 20 || to < 0 || to > 7) return false;
        int[] out = new int[21];
        for (int s = 0; s <= 20; s++) {
            int on = s <= a ? 0 : s >= b ? b - a : s - a;
            out[given ? on : s - on] += f[book][s];
        }
        f[to] = out;
        return true;
    }

    boolean part(int book, int share, boolean given, int to) {
        if (!right(book) || share < 0 || share > 100 || to < 0 || to > 7) return false;
        int[] out = new int[21];
        for (int s = 0; s <= 20; s++) {
            int kept = (s * share) / 100;
            out[given ? s - kept : kept] += f[book][s];
        }
        f[to] = out;
        return true;
    }

    /** Into runAt and runDeep; answers the chance of ruin. */
    private BigDecimal walk(int purse, int premium, int book, int n, BigDecimal[] runAt, BigDecimal[] runDeep) {
        Map<Integer, BigDecimal> now = new TreeMap<>();
        now.put(purse, BigDecimal.ONE);
        BigDecimal all = BigDecimal.ZERO;
        for (int t = 1; t <= n; t++) {
            runAt[t] = BigDecimal.ZERO;
            Map<Integer, BigDecimal> next = new TreeMap<>();
            for (Map.Entry<Integer, BigDecimal> e : now.entrySet()) {
                for (int s = 0; s <= 20; s++) {
                    if (f[book][s] == 0) continue;
                    BigDecimal chance = e.getValue().multiply(BigDecimal.valueOf(f[book][s])).multiply(THOUSANDTH);
                    int u = e.getKey() + premium - s;
                    if (u >= 0) {
                        next.merge(u, chance, BigDecimal::add);
                    } else {
                        runAt[t] = runAt[t].add(chance);
                        runDeep[-u] = runDeep[-u].add(chance);
                        all = all.add(chance);
                    }
                }
            }
            now = next;
        }
        return all;
    }

    private static BigDecimal[] noughts(int many) {
        BigDecimal[] row = new BigDecimal[many];
        java.util.Arrays.fill(row, BigDecimal.ZERO);
        return row;
    }

    boolean ruin(int purse, int premium, int book, int n) {
        if (purse < 0 || purse > 100 || premium < 0 || premium > 20 || n < 1 || n > 40 || !right(book)) return false;
        at = noughts(n + 1);
        deep = noughts(21);
        number = walk(purse, premium, book, n, at, deep);
        places = 3 * n;
        ticks = n;
        return true;
    }

    private static int decimal(BigDecimal value, int i) {
        BigInteger moved = value.movePointRight(i).setScale(0, RoundingMode.FLOOR).toBigInteger();
        return moved.mod(BigInteger.TEN).intValue();
    }

    int ticks() {
        return ticks;
    }

    int at(int t, int i) {
        return t < 1 || t > ticks || i < 1 || i > 3 * ticks ? -1 : decimal(at[t], i);
    }

    int deep(int k, int i) {
        return ticks == 0 || k < 1 || k > 20 || i < 1 || i > 3 * ticks ? -1 : decimal(deep[k], i);
    }

    boolean ever(int purse, int book) {
        if (purse < 0 || purse > 60 || !right(book)) return false;
        places = 30;
        int mean = told(book, 0, 0);
        if (mean >= 1000) {
            number = f[book][1] == 1000 ? BigDecimal.ZERO : BigDecimal.ONE;
            return true;
        }
        BigInteger f0 = BigInteger.valueOf(f[book][0]);
        BigInteger[] d = new BigInteger[purse + 1];
        d[0] = BigInteger.valueOf(1000 - mean);
        for (int u = 0; u < purse; u++) {
            BigInteger value = d[u].multiply(BigInteger.valueOf(1000));
            for (int k = 1; k <= u + 1 && k <= 20; k++) {
                value = value.subtract(BigInteger.valueOf(f[book][k]).multiply(d[u + 1 - k]).multiply(f0.pow(k - 1)));
            }
            d[u + 1] = value;
        }
        BigInteger whole = f0.pow(purse + 1);
        BigInteger cut = whole.subtract(d[purse]).multiply(BigInteger.TEN.pow(30)).divide(whole);
        number = new BigDecimal(cut, 30);
        return true;
    }

    int worth(int purse, int premium, int book, int keep, int n) {
        if (purse < 0 || purse > 60 || premium < 0 || premium > 20 || keep < 0 || keep > 1000 || n < 0 || n > 6
                || !right(book)) return -1;
        int payment = purse;
        int most = purse + n * premium;
        BigDecimal[] now = new BigDecimal[most + 1];
        for (int u = 0; u <= most; u++) now[u] = BigDecimal.valueOf(u);
        for (int t = 1; t <= n; t++) {
            int high = purse + (n - t) * premium;
            BigDecimal[] kept = new BigDecimal[high + 1];
            for (int w = 0; w <= high; w++) {
                BigDecimal sum = BigDecimal.ZERO;
                for (int s = 0; s <= 20; s++) {
                    int u = w + premium - s;
                    if (u >= 0) sum = sum.add(now[u].multiply(BigDecimal.valueOf(f[book][s])));
                }
                kept[w] = sum.multiply(BigDecimal.valueOf(keep)).movePointLeft(6);
            }
            BigDecimal[] next = new BigDecimal[high + 1];
            for (int u = 0; u <= high; u++) {
                for (int pay = 0; pay <= u; pay++) {
                    BigDecimal value = kept[u - pay].add(BigDecimal.valueOf(pay));
                    if (pay == 0 || value.compareTo(next[u]) > 0) {
                        next[u] = value;
                        if (t == n && u == purse) payment = pay;
                    }
                }
            }
            now = next;
        }
        number = now[purse];
        places = 6 * n;
        return payment;
    }

    boolean two(int what, int first, int second, int n, boolean help) {
        if (what < 0 || what >= 65536 || n < 1 || n > 5 || !right(first) || !right(second)) return false;
        int a = what % 16;
        int b = what / 16 % 16;
        int p = what / 256 % 16;
        int q = what / 4096;
        if (a > 12 || b > 12 || p > 6 || q > 6) return false;
        BigInteger[][] now = new BigInteger[64][64];
        now[a][b] = BigInteger.ONE;
        for (int t = 1; t <= n; t++) {
            BigInteger[][] next = new BigInteger[64][64];
            for (int x = 0; x < 64; x++) {
                for (int y = 0; y < 64; y++) {
                    if (now[x][y] != null) spread(now[x][y], x + p, y + q, f[first], f[second], help, next);
                }
            }
            now = next;
        }
        BigInteger sum = BigInteger.ZERO;
        for (BigInteger[] row : now) {
            for (BigInteger value : row) {
                if (value != null) sum = sum.add(value);
            }
        }
        number = new BigDecimal(sum, 6 * n);
        places = 6 * n;
        return true;
    }

    private static void spread(BigInteger weight, int x, int y, int[] f, int[] g, boolean help, BigInteger[][] next) {
        for (int s = 0; s <= 20; s++) {
            if (f[s] == 0) continue;
            for (int r = 0; r <= 20; r++) {
                if (g[r] == 0) continue;
                int u = x - s;
                int v = y - r;
                if (help && u < 0 && v >= 0 && v >= -u) {
                    v += u;
                    u = 0;
                } else if (help && v < 0 && u >= 0 && u >= -v) {
                    u += v;
                    v = 0;
                }
                if (u < 0 || v < 0) continue;
                BigInteger more = weight.multiply(BigInteger.valueOf((long) f[s] * g[r]));
                next[u][v] = next[u][v] == null ? more : next[u][v].add(more);
            }
        }
    }

    int digit(int i) {
        if (i < 0 || i > places) return -1;
        return i == 0 ? number.setScale(0, RoundingMode.FLOOR).intValueExact() : decimal(number, i);
    }

    int decimals() {
        return places;
    }

    int just(int purse, int book, int n, int millionths) {
        if (purse < 0 || purse > 100 || n < 1 || n > 12 || millionths < 0 || millionths > 1000000 || !right(book)) {
            return -1;
        }
        for (int premium = 0; premium <= 20; premium++) {
            latest = walk(purse, premium, book, n, noughts(n + 1), noughts(21));
            if (latest.compareTo(BigDecimal.valueOf(millionths, 6)) <= 0) return premium;
        }
        return -1;
    }

    /** The chance of ruin, in whole millionths, cut: to ask just() near its edges. */
    int millionths(int purse, int premium, int book, int n) {
        BigDecimal chance = walk(purse, premium, book, n, noughts(n + 1), noughts(21));
        return chance.movePointRight(6).setScale(0, RoundingMode.FLOOR).intValueExact();
    }

    boolean lighter(int first, int second) {
        if (!right(first) || !right(second)) return false;
        for (int d = 0; d <= 20; d++) {
            if (told(first, 2, d) > told(second, 2, d)) return false;
        }
        return true;
    }
}
