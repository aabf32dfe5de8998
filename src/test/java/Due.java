/** Compares answers with those that are due, and counts those that are not. */
final class Due {
    /** A call that answers a whole number. */
    interface Call {
        long answer();
    }

    /** A call of which one parameter is tried with several values. */
    interface CallOf {
        long answer(int value);
    }

    private static final int[] ENDS_OF_INT = {Integer.MIN_VALUE, Integer.MAX_VALUE};

    private static int asked = 0;
    private static int wrong = 0;
    private static String sentence = "";

    private Due() {
    }

    /** The sentence that the next answers are held to; it is told with each that is not as due. */
    static void by(String sentenceOfTheDocument) {
        sentence = sentenceOfTheDocument;
    }

    static void is(String call, long want, long got) {
        asked++;
        if (got != want) {
            tellWrong(call + " answered " + got + ", due is " + want);
        }
    }

    static void isDouble(String call, double want, double got) {
        asked++;
        if (got != want) {
            tellWrong(call + " answered " + got + ", due is " + want);
        }
    }

    static void holds(String what, boolean held) {
        asked++;
        if (!held) {
            tellWrong("it does not hold: " + what);
        }
    }

    /** What is told for 0, 1 and so on, one after another. */
    static void areFacts(String of, int[] want, CallOf got) {
        for (int what = 0; what < want.length; what++) {
            is(of + ", " + what, want[what], got.answer(what));
        }
    }

    /** The call throws just this exception, and nothing that can be told has changed. */
    static void isRefused(String call, Class<? extends RuntimeException> want, GritWheels x, Call made) {
        long before = x.digest();
        asked++;
        try {
            tellWrong(call + " answered " + made.answer() + ", due is " + want.getSimpleName());
        } catch (RuntimeException e) {
            if (e.getClass() != want) {
                tellWrong(call + " threw " + e + ", due is " + want.getSimpleName());
            }
        }
        is("digest() behind " + call, before, x.digest());
    }

    static void isOutside(String call, GritWheels x, Call made) {
        isRefused(call, IndexOutOfBoundsException.class, x, made);
    }

    static void isIllegal(String call, GritWheels x, Call made) {
        isRefused(call, IllegalArgumentException.class, x, made);
    }

    static void isUntimely(String call, GritWheels x, Call made) {
        isRefused(call, IllegalStateException.class, x, made);
    }

    /** Each of these values is refused, and so are the smallest and the largest int. */
    static void areOutside(String call, GritWheels x, CallOf made, int... values) {
        areRefused(call, IndexOutOfBoundsException.class, x, made, values);
    }

    static void areIllegal(String call, GritWheels x, CallOf made, int... values) {
        areRefused(call, IllegalArgumentException.class, x, made, values);
    }

    private static void areRefused(String call, Class<? extends RuntimeException> want, GritWheels x, CallOf made,
            int[] values) {
        for (int[] some : new int[][] {values, ENDS_OF_INT}) {
            for (int value : some) {
                isRefused(call + " for " + value, want, x, () -> made.answer(value));
            }
        }
    }

    static void tellWrong(String text) {
        wrong++;
        System.out.println(sentence.isEmpty() ? text : text + " (" + sentence + ")");
    }

    /** The last line of each test's main. */
    static void end() {
        System.out.println(asked + " answers looked at, " + wrong + " not as due");
        if (wrong != 0 || asked == 0) {
            System.exit(1);
        }
    }
}
