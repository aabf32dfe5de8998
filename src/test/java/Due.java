/** Compares answers with those that are due, and counts those that are not. */
final class Due {
    /** A call that answers a whole number. */
    interface Call {
        long answer();
    }

    private static int asked = 0;
    private static int wrong = 0;

    private Due() {
    }

    static void is(String call, long want, long got) {
        asked++;
        if (got != want) {
            tellWrong(call + " answered " + got + ", due is " + want);
        }
    }

    static void isDouble(String call, double want, double got) {
        asked++;
        if (got != want) {
            tellWrong(call + " answered " + got + ", due is " + want);
        }
    }

    /** The call throws just this exception, and nothing that can be told has changed. */
    static void isRefused(String call, Class<? extends RuntimeException> want, GritWheels x, Call made) {
        long before = x.digest();
        asked++;
        try {
            tellWrong(call + " answered " + made.answer() + ", due is " + want.getSimpleName());
        } catch (RuntimeException e) {
            if (e.getClass() != want) {
                tellWrong(call + " threw " + e + ", due is " + want.getSimpleName());
            }
        }
        is("digest() behind " + call, before, x.digest());
    }

    static void isOutside(String call, GritWheels x, Call made) {
        isRefused(call, IndexOutOfBoundsException.class, x, made);
    }

    static void isIllegal(String call, GritWheels x, Call made) {
        isRefused(call, IllegalArgumentException.class, x, made);
    }

    static void isUntimely(String call, GritWheels x, Call made) {
        isRefused(call, IllegalStateException.class, x, made);
    }

    static void tellWrong(String text) {
        wrong++;
        System.out.println(text);
    }

    /** The last line of each test's main. */
    static void end() {
        System.out.println(asked + " answers looked at, " + wrong + " not as due");
        if (wrong != 0 || asked == 0) {
            System.exit(1);
        }
    }
}
