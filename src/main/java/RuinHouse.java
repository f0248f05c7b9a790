import java.util.Arrays;

/**
 * A house that takes premiums and pays claims. All chances are held whole, as natural numbers
 * that count the last decimal, so that every digit told is exact.
 */
public final class RuinHouse {
    public static final int NONE = -1;

    private static final int BOOKS = 8;
    private static final int TOP_SIZE = 20;
    private static final int TOP_PREMIUM = 20;
    private static final int WHOLE = 1000;
    private static final int MILLION = 1000000;

    private static final int RUIN_PURSE = 100;
    private static final int RUIN_TICKS = 40;
    private static final int JUST_TICKS = 12;
    private static final int EVER_PURSE = 60;
    private static final int EVER_PLACES = 30;
    private static final int WORTH_PURSE = 60;
    private static final int WORTH_TICKS = 6;
    private static final int TWO_PURSE = 12;
    private static final int TWO_PREMIUM = 6;
    private static final int TWO_TICKS = 5;

    /** Twelve digits a limb: a limb times a million parts still fits a long. */
    private static final int LIMB_PLACES = 12;
    private static final long LIMB = 1000000000000L;
    /** 120 decimals and the digit ahead of them. */
    private static final int WIDTH = 11;
    /** 1000 to the power of 61, times ten for the division. */
    private static final int EVER_WIDTH = 16;
    /** 36 decimals and three digits ahead of them. */
    private static final int WORTH_WIDTH = 4;
    /** No more purses than this can still be reached and still be ruined (253 are the most). */
    private static final int WALK_ROWS = 256;

    private final Book[] books = new Book[BOOKS];
    private final int[] moved = new int[TOP_SIZE + 1];
    private final Walk walk = new Walk();
    private final Payout payout = new Payout();
    private final Forever forever = new Forever();
    private final Rows number = new Rows(1, WIDTH);
    private final Rows bound = new Rows(1, WIDTH);
    private final Rows byTick = new Rows(RUIN_TICKS + 1, WIDTH);
    private final Rows byDepth = new Rows(TOP_SIZE + 1, WIDTH);
    private int numberPlaces = 0;
    private int ruinTicks = 0;

    public RuinHouse() {
        for (int i = 0; i < BOOKS; i++) {
            books[i] = new Book();
        }
    }

    public boolean set(int book, int size, int parts) {
        Book found = findBook(book);
        if (found == null || !isWithin(size, 0, TOP_SIZE) || !isWithin(parts, 0, WHOLE)) {
            return false;
        }
        found.write(size, parts);
        return true;
    }

    public int parts(int book, int size) {
        Book found = findBook(book);
        if (found == null || !isWithin(size, 0, TOP_SIZE)) {
            return NONE;
        }
        return found.read(size);
    }

    public boolean right(int book) {
        return findRight(book) != null;
    }

    public int told(int book, int what, int d) {
        Book found = findRight(book);
        if (found == null) {
            return NONE;
        }
        if (what == 0) {
            return found.mean();
        }
        if (what == 1) {
            return found.spread();
        }
        return what == 2 && isWithin(d, 0, TOP_SIZE) ? found.stopAbove(d) : NONE;
    }

    public boolean layer(int book, int a, int b, boolean given, int to) {
        Book from = findRight(book);
        Book target = findBook(to);
        if (from == null || target == null || a < 0 || b > TOP_SIZE || a > b) {
            return false;
        }
        Arrays.fill(moved, 0);
        for (int size = 0; size <= TOP_SIZE; size++) {
            int gone = Math.min(Math.max(size - a, 0), b - a);
            move(given ? gone : size - gone, from.read(size));
        }
        writeMoved(target);
        return true;
    }

    public boolean part(int book, int share, boolean given, int to) {
        Book from = findRight(book);
        Book target = findBook(to);
        if (from == null || target == null || !isWithin(share, 0, 100)) {
            return false;
        }
        Arrays.fill(moved, 0);
        for (int size = 0; size <= TOP_SIZE; size++) {
            int kept = size * share / 100;
            move(given ? size - kept : kept, from.read(size));
        }
        writeMoved(target);
        return true;
    }

    public boolean ruin(int purse, int premium, int book, int n) {
        Book found = findRight(book);
        if (found == null || !isWithin(purse, 0, RUIN_PURSE)
                || !isWithin(premium, 0, TOP_PREMIUM) || !isWithin(n, 1, RUIN_TICKS)) {
            return false;
        }
        startNumber(1L);
        walk.claims.loadOne(found, 1);
        walk.begin(purse, premium, n, number, 0);
        startNumber(0L);
        byTick.wipe();
        byDepth.wipe();
        for (int t = 1; t <= n; t++) {
            noteTick(t);
            walk.tick();
        }
        numberPlaces = 3 * n;
        ruinTicks = n;
        return true;
    }

    public int at(int t, int i) {
        if (!isWithin(t, 1, ruinTicks) || !isWithin(i, 1, 3 * ruinTicks)) {
            return NONE;
        }
        // What comes at tick t has 3 t decimals; figure() tells 0 for those behind them.
        return byTick.figure(t, 3 * t - i);
    }

    public int deep(int k, int i) {
        if (!isWithin(k, 1, TOP_SIZE) || !isWithin(i, 1, 3 * ruinTicks)) {
            return NONE;
        }
        return byDepth.figure(k, 3 * ruinTicks - i);
    }

    public boolean ever(int purse, int book) {
        Book found = findRight(book);
        if (found == null || !isWithin(purse, 0, EVER_PURSE)) {
            return false;
        }
        boolean sinking = found.mean() >= WHOLE;
        boolean sure = sinking && found.read(1) != WHOLE;
        startNumber(sure ? 1L : 0L);
        if (!sinking) {
            forever.work(found, purse);
        }
        for (int i = 0; i < EVER_PLACES; i++) {
            number.times(0, 10L, sinking ? 0L : forever.nextFigure());
        }
        numberPlaces = EVER_PLACES;
        return true;
    }

    public int worth(int purse, int premium, int book, int keep, int n) {
        Book found = findRight(book);
        if (found == null || !isWithin(purse, 0, WORTH_PURSE)
                || !isWithin(premium, 0, TOP_PREMIUM) || !isWithin(keep, 0, WHOLE)
                || !isWithin(n, 0, WORTH_TICKS)) {
            return NONE;
        }
        payout.claims.loadOne(found, keep);
        int payment = payout.work(purse, premium, n);
        number.copy(0, payout.now, purse);
        numberPlaces = 6 * n;
        return payment;
    }

    public boolean two(int what, int first, int second, int n, boolean help) {
        Book one = findRight(first);
        Book other = findRight(second);
        if (one == null || other == null || !isWithin(what, 0, 65535)
                || !isWithin(n, 1, TWO_TICKS)) {
            return false;
        }
        int a = what & 15;
        int b = what >> 4 & 15;
        int p = what >> 8 & 15;
        int q = what >> 12 & 15;
        if (a > TWO_PURSE || b > TWO_PURSE || p > TWO_PREMIUM || q > TWO_PREMIUM) {
            return false;
        }
        startNumber(1L);
        if (help) {
            // With help it is over just when both purses together are below 0, and help
            // leaves them together what they were: so they are one house with two claims.
            walk.claims.loadBoth(one, other);
            stand(a + b, p + q, n);
        } else {
            // Without help neither house knows of the other: the chances are multiplied.
            walk.claims.loadOne(one, 1);
            stand(a, p, n);
            walk.claims.loadOne(other, 1);
            stand(b, q, n);
        }
        return true;
    }

    public int digit(int i) {
        if (!isWithin(i, 0, numberPlaces)) {
            return NONE;
        }
        if (i > 0) {
            return number.figure(0, numberPlaces - i);
        }
        int ahead = 0;
        for (int place = numberPlaces + 2; place >= numberPlaces; place--) {
            ahead = 10 * ahead + number.figure(0, place);
        }
        return ahead;
    }

    public int decimals() {
        return numberPlaces;
    }

    public int just(int purse, int book, int n, int millionths) {
        Book found = findRight(book);
        if (found == null || !isWithin(purse, 0, RUIN_PURSE) || !isWithin(n, 1, JUST_TICKS)
                || !isWithin(millionths, 0, MILLION)) {
            return NONE;
        }
        walk.claims.loadOne(found, 1);
        return findPremium(purse, n, millionths);
    }

    public boolean lighter(int first, int second) {
        Book one = findRight(first);
        Book other = findRight(second);
        if (one == null || other == null) {
            return false;
        }
        for (int d = 0; d <= TOP_SIZE; d++) {
            if (one.stopAbove(d) > other.stopAbove(d)) {
                return false;
            }
        }
        return true;
    }

    private static boolean isWithin(int value, int least, int most) {
        return value >= least && value <= most;
    }

    private Book findBook(int book) {
        return book >= 0 && book < books.length ? books[book] : null;
    }

    private Book findRight(int book) {
        Book found = findBook(book);
        return found != null && found.isWhole() ? found : null;
    }

    private void move(int size, int parts) {
        if (size >= 0 && size < moved.length) {
            moved[size] += parts;
        }
    }

    /** Only now, as the target may be the very book that was read. */
    private void writeMoved(Book target) {
        for (int size = 0; size < moved.length; size++) {
            target.write(size, moved[size]);
        }
    }

    private void startNumber(long value) {
        number.wipe();
        number.put(0, value);
        numberPlaces = 0;
    }

    /** Notes what falls in tick t, ahead of the walk's going on. */
    private void noteTick(int t) {
        for (int k = 1; k <= TOP_SIZE; k++) {
            walk.fall(k);
            byTick.combine(t, 1L, walk.fallen, 0, 1L);
            byDepth.combine(k, WHOLE, walk.fallen, 0, 1L);
        }
        number.combine(0, WHOLE, byTick, t, 1L);
    }

    /** Multiplies the number by the chance that a house stands behind n ticks. */
    private void stand(int purse, int premium, int n) {
        walk.begin(purse, premium, n, number, numberPlaces);
        walk.sumUp();
        for (int t = 0; t < n; t++) {
            number.times(0, walk.claims.whole, 0L);
        }
        number.combine(0, 1L, walk.sum, 0, -1L);
        numberPlaces += n * walk.claims.places;
    }

    /** A greater premium never makes ruin likelier, and with the top one it can't come at all. */
    private int findPremium(int purse, int n, int millionths) {
        int least = 0;
        int most = TOP_PREMIUM;
        for (int step = 0; step < TOP_PREMIUM && least < most; step++) {
            int middle = (least + most) / 2;
            if (isEnough(purse, middle, n, millionths)) {
                most = middle;
            } else {
                least = middle + 1;
            }
        }
        return most;
    }

    private boolean isEnough(int purse, int premium, int n, int millionths) {
        bound.wipe();
        bound.put(0, 1L);
        walk.begin(purse, premium, n, bound, 0);
        walk.sumUp();
        bound.put(0, millionths);
        for (int t = 0; t < n; t++) {
            bound.times(0, WHOLE, 0L);
        }
        walk.sum.times(0, MILLION, 0L);
        return walk.sum.order(0, bound, 0) <= 0;
    }

    /** The parts of each size. */
    private static final class Book {
        final int[] shares = new int[TOP_SIZE + 1];

        int read(int size) {
            return size >= 0 && size < shares.length ? shares[size] : 0;
        }

        void write(int size, int value) {
            if (size >= 0 && size < shares.length) {
                shares[size] = value;
            }
        }

        boolean isWhole() {
            int sum = 0;
            for (int size = 0; size < shares.length; size++) {
                sum += shares[size];
            }
            return sum == WHOLE;
        }

        int mean() {
            return stopAbove(0);
        }

        int stopAbove(int d) {
            int sum = 0;
            for (int size = 0; size < shares.length; size++) {
                sum += Math.max(size - d, 0) * shares[size];
            }
            return sum;
        }

        int spread() {
            int squares = 0;
            for (int size = 0; size < shares.length; size++) {
                squares += size * size * shares[size];
            }
            return WHOLE * squares - mean() * mean();
        }
    }

    /** What may come in one tick, with what weight: the weights are at most a million together. */
    private static final class Claims {
        final long[] weights = new long[2 * TOP_SIZE + 1];
        int top = 0;
        long whole = WHOLE;
        int places = 3;

        void loadOne(Book book, int factor) {
            empty(WHOLE, 3);
            for (int size = 0; size <= TOP_SIZE; size++) {
                add(size, (long) factor * book.read(size));
            }
        }

        void loadBoth(Book one, Book other) {
            empty(MILLION, 6);
            for (int i = 0; i <= TOP_SIZE; i++) {
                for (int k = 0; k <= TOP_SIZE; k++) {
                    add(i + k, (long) one.read(i) * other.read(k));
                }
            }
        }

        private void empty(long newWhole, int newPlaces) {
            Arrays.fill(weights, 0L);
            top = 0;
            whole = newWhole;
            places = newPlaces;
        }

        private void add(int size, long weight) {
            if (weight > 0L && size >= 0 && size < weights.length) {
                weights[size] += weight;
                top = Math.max(top, size);
            }
        }

        long weight(int size) {
            return size >= 0 && size < weights.length ? weights[size] : 0L;
        }
    }

    /** Natural numbers in rows of limbs, the lowest limb first; rows that aren't used count 0. */
    private static final class Rows {
        final int height;
        final int width;
        final long[] cells;
        int used;

        Rows(int rows, int limbs) {
            height = Math.max(rows, 1);
            width = Math.max(limbs, 1);
            cells = new long[height * width];
            used = height;
        }

        boolean has(int row) {
            return row >= 0 && row < used;
        }

        void open(int rows) {
            used = Math.max(Math.min(rows, height), 0);
        }

        void wipe() {
            Arrays.fill(cells, 0L);
        }

        /** The value is below one limb. */
        void put(int row, long value) {
            for (int i = 0; i < width; i++) {
                write(row, i, i == 0 ? value : 0L);
            }
        }

        void copy(int row, Rows other, int from) {
            for (int i = 0; i < width; i++) {
                write(row, i, other.read(from, i));
            }
        }

        void times(int row, long factor, long plus) {
            long carry = plus;
            for (int i = 0; i < width; i++) {
                carry += read(row, i) * factor;
                write(row, i, carry % LIMB);
                carry /= LIMB;
            }
        }

        /** Times the factor, and the other row times its weight, which may be below 0. */
        void combine(int row, long factor, Rows other, int from, long weight) {
            long carry = 0L;
            for (int i = 0; i < width; i++) {
                carry += read(row, i) * factor + other.read(from, i) * weight;
                write(row, i, Math.floorMod(carry, LIMB));
                carry = Math.floorDiv(carry, LIMB);
            }
        }

        /** The row becomes the sum, over all sizes, of their weight times row from + sign * size. */
        void mix(int row, Rows source, int from, int sign, Claims claims, int limbs) {
            int many = Math.min(limbs, Math.min(width, source.width));
            if (!has(row) || many < 1) {
                return;
            }
            for (int i = row * width; i < row * width + many; i++) {
                cells[i] = 0L;
            }
            for (int size = 0; size <= claims.top; size++) {
                int origin = from + sign * size;
                if (source.has(origin)) {
                    gather(row, source, origin, claims.weight(size), many);
                }
            }
            long carry = 0L;
            for (int i = row * width; i < row * width + many; i++) {
                carry += cells[i];
                cells[i] = carry % LIMB;
                carry /= LIMB;
            }
        }

        /** Without carrying: the weights are together so few that the sums fit. Both rows are there. */
        private void gather(int row, Rows source, int from, long weight, int many) {
            if (weight == 0L) {
                return;
            }
            int to = row * width;
            int start = from * source.width;
            for (int i = 0; i < many; i++) {
                cells[to + i] += weight * source.cells[start + i];
            }
        }

        int order(int row, Rows other, int from) {
            for (int i = Math.max(width, other.width) - 1; i >= 0; i--) {
                int sign = Long.compare(read(row, i), other.read(from, i));
                if (sign != 0) {
                    return sign;
                }
            }
            return 0;
        }

        /** The digit that counts ten to the power of place. */
        int figure(int row, int place) {
            if (place < 0) {
                return 0;
            }
            long limb = read(row, place / LIMB_PLACES);
            for (int i = place % LIMB_PLACES; i > 0; i--) {
                limb /= 10L;
            }
            return (int) (limb % 10L);
        }

        private long read(int row, int i) {
            return has(row) && i >= 0 && i < width ? cells[row * width + i] : 0L;
        }

        private void write(int row, int i, long value) {
            if (has(row) && i >= 0 && i < width) {
                cells[row * width + i] = value;
            }
        }
    }

    /** The chances of all purses, tick by tick; those that can't be ruined any more are left out. */
    private static final class Walk {
        final Claims claims = new Claims();
        final Rows fallen = new Rows(1, WIDTH);
        final Rows sum = new Rows(1, WIDTH);
        Rows now = new Rows(WALK_ROWS, WIDTH);
        Rows next = new Rows(WALK_ROWS, WIDTH);
        int premium = 0;
        int left = 0;
        int reach = 0;
        int places = 0;

        /** The walk begins with a weight of that many decimals, not always with 1. */
        void begin(int purse, int newPremium, int ticks, Rows weight, int weightPlaces) {
            premium = newPremium;
            left = ticks;
            reach = purse;
            places = weightPlaces;
            fallen.wipe();
            now.wipe();
            next.wipe();
            now.open(liveRows());
            now.copy(purse, weight, 0);
        }

        /** The chance of this tick's end being that much below 0, into fallen. */
        void fall(int depth) {
            fallen.mix(0, now, -depth - premium, 1, claims, nextLimbs());
        }

        void tick() {
            int limbs = nextLimbs();
            left--;
            reach += premium;
            next.open(liveRows());
            for (int purse = 0; purse < next.used; purse++) {
                next.mix(purse, now, purse - premium, 1, claims, limbs);
            }
            places += claims.places;
            Rows old = now;
            now = next;
            next = old;
        }

        /** All that falls in all ticks that are left, into sum. */
        void sumUp() {
            sum.wipe();
            int ticks = left;
            for (int t = 0; t < ticks; t++) {
                sum.times(0, claims.whole, 0L);
                for (int depth = 1; depth <= claims.top - premium; depth++) {
                    fall(depth);
                    sum.combine(0, 1L, fallen, 0, 1L);
                }
                tick();
            }
        }

        private int liveRows() {
            return Math.min(reach + 1, left * (claims.top - premium));
        }

        /** Behind the next tick no chance has more limbs than that. */
        private int nextLimbs() {
            return (places + claims.places) / LIMB_PLACES + 1;
        }
    }

    /** What each purse is worth, from the last tick back. */
    private static final class Payout {
        final Claims claims = new Claims();
        final Rows unit = new Rows(1, WORTH_WIDTH);
        final Rows rival = new Rows(1, WORTH_WIDTH);
        Rows now = new Rows(WORTH_PURSE + WORTH_TICKS * TOP_PREMIUM + 1, WORTH_WIDTH);
        Rows next = new Rows(WORTH_PURSE + WORTH_TICKS * TOP_PREMIUM + 1, WORTH_WIDTH);

        /** The payment; what the purse is worth stands in its row of now. */
        int work(int purse, int premium, int ticks) {
            int payment = purse;
            unit.put(0, 1L);
            now.open(purse + ticks * premium + 1);
            for (int u = 0; u < now.used; u++) {
                now.put(u, u);
            }
            for (int t = 1; t <= ticks; t++) {
                unit.times(0, MILLION, 0L);
                payment = goBack(purse + (ticks - t) * premium, premium);
            }
            return payment;
        }

        /** One tick back, for all purses up to the highest: the highest one's payment. */
        private int goBack(int highest, int premium) {
            int payment = 0;
            next.open(highest + 1);
            for (int u = 0; u <= highest; u++) {
                next.mix(u, now, u + premium, -1, claims, WORTH_WIDTH);
                payment = u == 0 || !payOne(u) ? 0 : payment + 1;
            }
            Rows old = now;
            now = next;
            next = old;
            return payment;
        }

        /** Paying 1 and then doing as with one less: whether that is more than keeping it all. */
        private boolean payOne(int u) {
            rival.copy(0, next, u - 1);
            rival.combine(0, 1L, unit, 0, 1L);
            if (next.order(u, rival, 0) >= 0) {
                return false;
            }
            next.copy(u, rival, 0);
            return true;
        }
    }

    /** Ruin for ever with a premium of 1 and a mean below 1. */
    private static final class Forever {
        final Rows stays = new Rows(EVER_PURSE + 1, EVER_WIDTH);
        final Rows sum = new Rows(1, EVER_WIDTH);
        final Rows power = new Rows(1, EVER_WIDTH);
        final Rows rest = new Rows(1, EVER_WIDTH);

        /** Makes the fraction rest by power, which is the chance of ruin. */
        void work(Book book, int purse) {
            stays.put(0, WHOLE - book.mean());
            power.put(0, book.read(0));
            for (int u = 1; u <= purse; u++) {
                sumUp(book, u);
                stays.put(u, 0L);
                stays.combine(u, 1L, stays, u - 1, WHOLE);
                stays.combine(u, 1L, sum, 0, -1L);
                power.times(0, book.read(0), 0L);
            }
            rest.copy(0, power, 0);
            rest.combine(0, 1L, stays, purse, -1L);
        }

        /** From the largest size down, so that each power of book.read(0) comes by itself. */
        private void sumUp(Book book, int u) {
            sum.put(0, 0L);
            for (int k = Math.min(u, TOP_SIZE); k >= 1; k--) {
                sum.combine(0, book.read(0), stays, u - k, book.read(k));
            }
        }

        long nextFigure() {
            rest.times(0, 10L, 0L);
            long figure = 0L;
            for (int i = 0; i < 9 && rest.order(0, power, 0) >= 0; i++) {
                rest.combine(0, 1L, power, 0, -1L);
                figure++;
            }
            return figure;
        }
    }
}
