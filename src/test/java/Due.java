/** Counts the answers that are not as due, for one test. */
final class Due {
    private final String test;
    private String sentence = "";
    private int wrong = 0;
    private int asked = 0;

    Due(String test) {
        this.test = test;
    }

    /** What is asked from here on is asked because of these words of the document. */
    void sentence(String words) {
        sentence = words;
    }

    void same(String call, long got, long want) {
        note(call, Long.toString(got), Long.toString(want));
    }

    void same(String call, String got, String want) {
        note(call, got, want);
    }

    void yes(String call, boolean got) {
        note(call, Boolean.toString(got), "true");
    }

    void no(String call, boolean got) {
        note(call, Boolean.toString(got), "false");
    }

    void none(String call, int got) {
        note(call, Integer.toString(got), "-1");
    }

    private void note(String call, String got, String want) {
        asked++;
        if (!got.equals(want)) {
            wrong++;
            if (wrong <= 40) {
                System.out.println(test + ": " + call + " answered " + got + ", due is " + want
                        + (sentence.isEmpty() ? "" : ", by \"" + sentence + "\""));
            }
        }
    }

    void end() {
        System.out.println(test + ": " + asked + " answers, " + wrong + " not as due");
        if (wrong != 0) {
            System.exit(1);
        }
    }
}
