import java.util.ArrayList;
import java.util.List;
import java.util.function.IntPredicate;

/**
 * "What is refused changes nothing.": every int of every call one beyond its bounds, at the least
 * and greatest int, and at ints that would wrap around onto good ones; and all that can be asked of
 * the object behind it is as it was.
 */
public final class RefusedTest {
    private static final Due DUE = new Due("RefusedTest");
    private static final int SCENES = 5;

    /** A call with its ints; a boolean answers 1 or 0. */
    private interface Call {
        int answer(House x, int[] in);
    }

    /** One call: good ints, which ints are good in each place, and what it answers when it refuses. */
    private record Kind(String name, int refusal, int[] good, IntPredicate[] fits, Call call) {
    }

    public static void main(String[] args) {
        for (int scene = 0; scene < SCENES; scene++) {
            String due = state(scene(scene));
            for (Kind kind : kinds()) {
                refuse(scene, due, kind);
                pairs(scene, due, kind);
            }
            readers(scene, due);
        }
        DUE.end();
    }

    /** Books 0, 1 and 7 are RIGHT, 2 has 999, 3 has 1001, 4 to 6 have none. */
    private static House scene(int scene) {
        House x = new House().with(0, 0, 700, 3, 200, 5, 100).with(1, 0, 750, 2, 250).with(7, 0, 999, 20, 1)
                .with(2, 0, 700, 3, 200, 5, 99).with(3, 0, 700, 3, 200, 5, 101);
        if (scene > 0) x.ruin(1, 1, 0, 2);
        if (scene == 2) x.ever(0, 1);
        if (scene == 3) x.worth(9, 1, 1, 900, 2);
        if (scene == 4) x.two(0x1211, 0, 1, 1, true);
        return x;
    }

    /** All that can be asked of the object, with the first decimals that aren't there. */
    private static String state(House x) {
        StringBuilder text = new StringBuilder();
        for (int book = 0; book <= 7; book++) text.append(x.row(book)).append(x.right(book) ? " right; " : "; ");
        text.append("NUMBER ").append(x.number()).append(' ').append(x.digit(x.decimals() + 1));
        for (int t = 1; t <= 3; t++) text.append(" at ").append(x.atText(t, 7));
        for (int k = 1; k <= 20; k++) text.append(' ').append(x.deepText(k, 6));
        return text.append(x.deep(1, 7)).toString();
    }

    private static IntPredicate from(int least, int most) {
        return v -> v >= least && v <= most;
    }

    private static boolean isRight(int book) {
        return book == 0 || book == 1 || book == 7;
    }

    private static boolean isWhat(int v) {
        return v >= 0 && v < 65536 && v % 16 <= 12 && v / 16 % 16 <= 12 && v / 256 % 16 <= 6 && v / 4096 <= 6;
    }

    private static IntPredicate[] all(IntPredicate... fits) {
        return fits;
    }

    private static int[] ints(int... values) {
        return values;
    }

    private static int bit(boolean answer) {
        return answer ? 1 : 0;
    }

    private static List<Kind> kinds() {
        IntPredicate book = from(0, 7);
        IntPredicate right = RefusedTest::isRight;
        List<Kind> kinds = new ArrayList<>();
        kinds.add(new Kind("set", 0, ints(4, 5, 600), all(book, from(0, 20), from(0, 1000)),
                (x, v) -> bit(x.set(v[0], v[1], v[2]))));
        kinds.add(new Kind("parts", -1, ints(0, 3), all(book, from(0, 20)), (x, v) -> x.parts(v[0], v[1])));
        kinds.add(new Kind("right", 0, ints(0), all(right), (x, v) -> bit(x.right(v[0]))));
        kinds.add(new Kind("told STOP", -1, ints(0, 2, 3), all(right, from(0, 2), from(0, 20)),
                (x, v) -> x.told(v[0], v[1], v[2])));
        for (boolean given : new boolean[] {false, true}) {
            kinds.add(new Kind("layer " + given, 0, ints(0, 2, 4, 5), all(right, from(0, 4), from(2, 20), book),
                    (x, v) -> bit(x.layer(v[0], v[1], v[2], given, v[3]))));
            kinds.add(new Kind("part " + given, 0, ints(0, 40, 5), all(right, from(0, 100), book),
                    (x, v) -> bit(x.part(v[0], v[1], given, v[2]))));
            kinds.add(new Kind("two " + given, 0, ints(0x2143, 7, 1, 3), all(RefusedTest::isWhat, right, right, from(1, 5)),
                    (x, v) -> bit(x.two(v[0], v[1], v[2], v[3], given))));
        }
        kinds.add(new Kind("ruin", 0, ints(2, 1, 1, 3), all(from(0, 100), from(0, 20), right, from(1, 40)),
                (x, v) -> bit(x.ruin(v[0], v[1], v[2], v[3]))));
        kinds.add(new Kind("ever", 0, ints(3, 7), all(from(0, 60), right), (x, v) -> bit(x.ever(v[0], v[1]))));
        for (int n = 0; n <= 6; n += 6) {
            kinds.add(new Kind("worth", -1, ints(4, 2, 0, 950, n),
                    all(from(0, 60), from(0, 20), right, from(0, 1000), from(0, 6)),
                    (x, v) -> x.worth(v[0], v[1], v[2], v[3], v[4])));
        }
        kinds.add(new Kind("just", -1, ints(4, 0, 5, 1000), all(from(0, 100), right, from(1, 12), from(0, 1000000)),
                (x, v) -> x.just(v[0], v[1], v[2], v[3])));
        kinds.add(new Kind("lighter", 0, ints(1, 0), all(right, right), (x, v) -> bit(x.lighter(v[0], v[1]))));
        return kinds;
    }

    /** Near all bounds of the document, at the ends of int, and a wrap-around away from good ints. */
    private static int[] wild(int good) {
        int min = Integer.MIN_VALUE;
        int max = Integer.MAX_VALUE;
        return new int[] {-1, 0, 1, 2, 3, 4, 5, 6, 7, 8, 12, 13, 20, 21, 40, 41, 60, 61, 100, 101, 1000, 1001, 65535, 65536,
            1000000, 1000001, min, min + 1, max, max - 1, -good - 1, good + 256, good - 256, good + 65536, good - 65536,
            good + (1 << 24), good + (1 << 30), good + min, 715827883, 1431655766, 214748365, 429496730, 858993460,
            107374183, 102261127, -715827882, -2, -20, -21, -1000, -1000000};
    }

    private static void refuse(int scene, String due, Kind kind) {
        for (int place = 0; place < kind.good().length; place++) {
            for (int value : wild(kind.good()[place])) {
                int[] in = kind.good().clone();
                in[place] = value;
                if (!kind.fits()[place].test(value)) refuseOne(scene, due, kind, in);
            }
        }
    }

    /** Two wrong ones at once, at the ends of int. */
    private static void pairs(int scene, String due, Kind kind) {
        int[] ends = {Integer.MIN_VALUE, -1, Integer.MAX_VALUE};
        for (int one = 0; one < kind.good().length; one++) {
            for (int other = 0; other < one; other++) {
                for (int k = 0; k < 9; k++) {
                    int[] in = kind.good().clone();
                    in[one] = ends[k % 3];
                    in[other] = ends[k / 3];
                    refuseOne(scene, due, kind, in);
                }
            }
        }
    }

    private static void refuseOne(int scene, String due, Kind kind, int[] in) {
        DUE.sentence("What is refused changes nothing.");
        String call = "scene " + scene + ": " + kind.name() + java.util.Arrays.toString(in);
        House x = scene(scene);
        DUE.same(call, kind.call().answer(x, in), kind.refusal());
        DUE.same("behind " + call, state(x), due);
    }

    /** What only reads changes nothing, whatever it is asked. */
    private static void readers(int scene, String due) {
        DUE.sentence("The NUMBER is what the latest ruin(), ever(), worth() or two() made");
        House x = scene(scene);
        for (int v : wild(1)) {
            x.digit(v);
            x.at(1, v);
            x.at(v, 1);
            x.deep(v, 1);
        }
        x.decimals();
        x.parts(0, 0);
        x.right(0);
        x.lighter(0, 1);
        x.told(0, 0, 0);
        x.told(0, 1, 0);
        x.told(0, 2, 0);
        for (int n = 1; n <= 12; n++) x.just(n, 0, n, 1000);
        House y = scene(scene);
        DUE.same("scene " + scene + " behind reading", ends(x), ends(y));
        House z = scene(scene);
        z.just(0, 7, 12, 0);
        z.just(100, 0, 12, 1000000);
        DUE.same("scene " + scene + " behind just()", state(z), due);
    }

    /** Less than state(), as many calls were made. */
    private static String ends(House x) {
        return x.number() + " " + x.row(0) + " " + x.atText(2, 7) + " " + x.deepText(2, 7);
    }
}
