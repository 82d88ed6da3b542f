import java.util.Arrays;

/** Counts and prints the answers that are not the ones that are due. */
final class Due {
    private int checked = 0;
    private int wrong = 0;

    void is(String call, long got, long want) {
        same(call, Long.toString(got), Long.toString(want));
    }

    /** All answers of one kind at once. */
    void all(String call, int[] got, int... want) {
        same(call, Arrays.toString(got), Arrays.toString(want));
    }

    void same(String call, String got, String want) {
        checked++;
        if (!got.equals(want)) {
            wrong++;
            System.out.println(call + " answered " + got + ", due is " + want);
        }
    }

    /** Ends the test's program: with exit code 1 if an answer was wrong, or if nothing was checked. */
    void finish() {
        System.out.println(checked + " answers, " + wrong + " not as due");
        if (wrong != 0 || checked == 0) {
            System.exit(1);
        }
    }
}
