import java.util.Arrays;

/** Collects the answers that are not as due, for the tests of this folder. */
final class Expect {
    private static int wrong = 0;
    private static String about = "";

    private Expect() {
    }

    /** What is said from here on is said of this; "" ends it. */
    static void about(String sentence) {
        about = sentence.isEmpty() ? "" : "[" + sentence + "] ";
    }

    static void due(String call, long got, long want) {
        if (got != want) {
            say(call + " answered " + got + ", due is " + want);
        }
    }

    static void due(String call, int[] got, int... want) {
        if (!Arrays.equals(got, want)) {
            say(call + " answered " + Arrays.toString(got) + ", due is " + Arrays.toString(want));
        }
    }

    static void say(String fault) {
        wrong++;
        System.out.println(about + fault);
    }

    static void end() {
        System.out.println(wrong == 0 ? "all answers are as due" : wrong + " answers are not as due");
        if (wrong != 0) {
            System.exit(1);
        }
    }
}
