/** Counts answers that are not the ones that are due. */
final class Due {
    static final int BEYOND = -100001;
    static final int MISSING = -100002;
    static final int SIZE = -100003;
    static final int KIND = -100004;
    static final int FULL = -100005;
    static final int NONE = -100006;
    static final int APART = -100007;
    static final int SWORN = -100008;
    static final int UNTRUE = -100009;

    private static final int SHOWN = 20;

    private static String sentence = "";
    private static int asked = 0;
    private static int wrong = 0;

    private Due() {
    }

    /** The document's words by which the next answers are due; shown with each that is wrong. */
    static void says(String words) {
        sentence = "\"" + words + "\": ";
    }

    static void is(String call, long got, long want) {
        asked++;
        if (got != want) {
            wrong++;
        }
        if (got != want && wrong <= SHOWN) {
            System.out.println(sentence + call + " answered " + got + ", due is " + want);
        }
    }

    static void holds(String what, boolean so) {
        is(what, so ? 1 : 0, 1);
    }

    /** Writes a sentence anew, sign by sign. */
    static void write(TownKnows town, int s, int... signs) {
        town.blank(s);
        for (int i = 0; i < signs.length; i++) {
            is("sign(" + s + ", " + signs[i] + ")", town.sign(s, signs[i]), i + 1);
        }
    }

    /** Numbers just outside of low to high, far outside, and such as lose their high bits in a narrower type. */
    static int[] outside(int low, int high) {
        return new int[] {low - 1, high + 1, low - 2, high + 2, low - 256, high + 256, low + 65536, low + (1 << 30),
            Integer.MIN_VALUE + low + 1, Integer.MIN_VALUE, Integer.MAX_VALUE};
    }

    static void end(String test) {
        System.out.println(test + ": " + asked + " asked, " + wrong + " wrong");
        if (wrong != 0) {
            System.exit(1);
        }
    }
}
