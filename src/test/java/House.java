/**
 * A RuinHouse whose calls are counted: the document promises nothing behind the 512th call on one
 * object, so a test that leaned on such a call would be wrong itself.
 */
final class House {
    static final int MOST_CALLS = 512;

    private final RuinHouse house = new RuinHouse();
    private int calls = 0;

    private RuinHouse called() {
        calls++;
        if (calls > MOST_CALLS) {
            throw new IllegalStateException("more than " + MOST_CALLS + " calls on one object");
        }
        return house;
    }

    int calls() {
        return calls;
    }

    boolean set(int book, int size, int parts) {
        return called().set(book, size, parts);
    }

    int parts(int book, int size) {
        return called().parts(book, size);
    }

    boolean right(int book) {
        return called().right(book);
    }

    int told(int book, int what, int d) {
        return called().told(book, what, d);
    }

    boolean layer(int book, int a, int b, boolean given, int to) {
        return called().layer(book, a, b, given, to);
    }

    boolean part(int book, int share, boolean given, int to) {
        return called().part(book, share, given, to);
    }

    boolean ruin(int purse, int premium, int book, int n) {
        return called().ruin(purse, premium, book, n);
    }

    int at(int t, int i) {
        return called().at(t, i);
    }

    int deep(int k, int i) {
        return called().deep(k, i);
    }

    boolean ever(int purse, int book) {
        return called().ever(purse, book);
    }

    int worth(int purse, int premium, int book, int keep, int n) {
        return called().worth(purse, premium, book, keep, n);
    }

    boolean two(int what, int first, int second, int n, boolean help) {
        return called().two(what, first, second, n, help);
    }

    int digit(int i) {
        return called().digit(i);
    }

    int decimals() {
        return called().decimals();
    }

    int just(int purse, int book, int n, int millionths) {
        return called().just(purse, book, n, millionths);
    }

    boolean lighter(int first, int second) {
        return called().lighter(first, second);
    }

    /** Sets size, parts, size, parts, .. in a book. */
    House with(int book, int... pairs) {
        for (int i = 0; i + 1 < pairs.length; i += 2) {
            set(book, pairs[i], pairs[i + 1]);
        }
        return this;
    }

    /** The same, all other sizes having no parts. */
    House anew(int book, int... pairs) {
        for (int size = 0; size <= 20; size++) {
            set(book, size, 0);
        }
        return with(book, pairs);
    }

    /** The NUMBER, as "ahead.decimals" (or "ahead" without decimals). */
    String number() {
        StringBuilder text = new StringBuilder().append(digit(0));
        int many = decimals();
        for (int i = 1; i <= many; i++) {
            text.append(i == 1 ? "." : "").append(digit(i));
        }
        return text.toString();
    }

    /** The first decimals of at(t, ..). */
    String atText(int t, int many) {
        StringBuilder text = new StringBuilder();
        for (int i = 1; i <= many; i++) {
            text.append(at(t, i));
        }
        return text.toString();
    }

    /** The first decimals of deep(k, ..). */
    String deepText(int k, int many) {
        StringBuilder text = new StringBuilder();
        for (int i = 1; i <= many; i++) {
            text.append(deep(k, i));
        }
        return text.toString();
    }

    /** A book's sizes that have parts, as "size:parts size:parts ..". */
    String row(int book) {
        StringBuilder text = new StringBuilder();
        for (int size = 0; size <= 20; size++) {
            int parts = parts(book, size);
            if (parts != 0) {
                text.append(text.length() == 0 ? "" : " ").append(size).append(':').append(parts);
            }
        }
        return text.toString();
    }
}
