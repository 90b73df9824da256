/** What the tests share: they count the answers that are not due, and print each. */
final class Check {
    /** A call whose answer, or whose exception, is looked at; a call without an answer answers 0. */
    interface Call {
        long go();
    }

    interface Silent {
        void go();
    }

    static final Class<?> RANGE = IllegalArgumentException.class;
    static final Class<?> NO_SUCH = IndexOutOfBoundsException.class;
    static final Class<?> STATE = IllegalStateException.class;

    private static int looked = 0;
    private static int wrong = 0;

    private Check() {
    }

    static void same(String what, long got, long want) {
        looked++;
        if (got != want) {
            wrong++;
            System.out.println(what + " answered " + got + ", due is " + want);
        }
    }

    static void same(String what, boolean got, boolean want) {
        same(what, got ? 1 : 0, want ? 1 : 0);
    }

    /** The exception must be of just this class, which those that the machine throws are not. */
    static void refused(String what, Class<?> kind, Silent call) {
        looked++;
        Class<?> got = null;
        try {
            call.go();
        } catch (RuntimeException e) {
            got = e.getClass();
        }
        if (got != kind) {
            wrong++;
            System.out.println(what + " threw " + got + ", due is " + kind);
        }
    }

    static void row(String what, long[] got, long... want) {
        looked++;
        if (!java.util.Arrays.equals(got, want)) {
            wrong++;
            System.out.println(what + " answered " + java.util.Arrays.toString(got)
                    + ", due is " + java.util.Arrays.toString(want));
        }
    }

    /** Numbers, each as 1 more in 8 bits, from the lowest ones on. */
    static long codes(int... numbers) {
        long codes = 0;
        for (int i = 0; i < numbers.length; i++) {
            codes |= (long) (numbers[i] + 1) << 8 * i;
        }
        return codes;
    }

    /** A word of the same letter. */
    static long letters(int letter, int count) {
        int[] all = new int[count];
        java.util.Arrays.fill(all, letter);
        return codes(all);
    }

    static void end(String name) {
        System.out.println(name + ": " + looked + " looked at, " + wrong + " wrong");
        if (wrong > 0) {
            System.exit(1);
        }
    }
}
