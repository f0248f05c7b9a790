/** Counts the answers that are not as due, for one test. */
final class Due {
    private final String test;
    private int wrong = 0;
    private int asked = 0;

    Due(String test) {
        this.test = test;
    }

    void same(String call, long got, long want) {
        asked++;
        if (got != want) {
            wrong++;
            if (wrong <= 40) {
                System.out.println(test + ": " + call + " answered " + got + ", due is " + want);
            }
        }
    }

    void same(String call, String got, String want) {
        asked++;
        if (!got.equals(want)) {
            wrong++;
            if (wrong <= 40) {
                System.out.println(test + ": " + call + " answered " + got + ", due is " + want);
            }
        }
    }

    void yes(String call, boolean got) {
        same(call, got ? 1 : 0, 1);
    }

    void no(String call, boolean got) {
        same(call, got ? 1 : 0, 0);
    }

    void end() {
        System.out.println(test + ": " + asked + " answers, " + wrong + " not as due");
        if (wrong != 0) {
            System.exit(1);
        }
    }

    /** The NUMBER, as "ahead.decimals" (or "ahead" without decimals). */
    static String number(RuinHouse x) {
        StringBuilder text = new StringBuilder().append(x.digit(0));
        for (int i = 1; i <= x.decimals(); i++) {
            text.append(i == 1 ? "." : "").append(x.digit(i));
        }
        return text.toString();
    }

    /** The first decimals of at(t, ..). */
    static String at(RuinHouse x, int t, int many) {
        StringBuilder text = new StringBuilder();
        for (int i = 1; i <= many; i++) {
            text.append(x.at(t, i));
        }
        return text.toString();
    }

    /** The first decimals of deep(k, ..). */
    static String deep(RuinHouse x, int k, int many) {
        StringBuilder text = new StringBuilder();
        for (int i = 1; i <= many; i++) {
            text.append(x.deep(k, i));
        }
        return text.toString();
    }

    /** Sets a book from size, parts, size, parts, .. */
    static void fill(RuinHouse x, int book, int... pairs) {
        for (int s = 0; s <= 20; s++) {
            x.set(book, s, 0);
        }
        for (int i = 0; i + 1 < pairs.length; i += 2) {
            x.set(book, pairs[i], pairs[i + 1]);
        }
    }
}
