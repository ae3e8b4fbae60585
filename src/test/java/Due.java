import java.util.Arrays;

/** Counts and prints the answers that are not as due, and which promises were looked at. */
final class Due {
    static final int PROMISES = 44;
    private static final int[] checks = new int[PROMISES + 1];
    private static int passed = 0, failed = 0;

    private Due() {
    }

    static void is(int promise, String call, long got, long want) {
        checks[promise]++;
        if (got == want) {
            passed++;
        } else {
            failed++;
            System.out.println("promise " + promise + ": " + call + " answered " + got + ", due is " + want);
        }
    }

    static void isTrue(int promise, String what, boolean so) {
        is(promise, what, so ? 1 : 0, 1);
    }

    static int passed() {
        return passed;
    }

    static int failed() {
        return failed;
    }

    static void lookAfresh() {
        Arrays.fill(checks, 0);
    }

    /** The first promise that no check looked at; 0: each was. */
    static int unlooked() {
        for (int p = 1; p <= PROMISES; p++) {
            if (checks[p] == 0) {
                return p;
            }
        }
        return 0;
    }
}
