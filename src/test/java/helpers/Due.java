/** Tells the answers that are not as due, and ends a test with exit code 1 if there was one. */
public final class Due {
    private static int asked = 0;
    private static int wrong = 0;

    private Due() {
    }

    public static void is(String call, long got, long want) {
        asked++;
        if (got != want) {
            wrong++;
            System.out.println(call + " answered " + got + ", due is " + want);
        }
    }

    public static void is(String call, boolean got, boolean want) {
        is(call, got ? 1 : 0, want ? 1 : 0);
    }

    public static boolean allRight() {
        return wrong == 0;
    }

    public static void end() {
        System.out.println(asked + " answers, " + wrong + " of them not as due");
        if (wrong != 0 || asked == 0) {
            System.exit(1);
        }
    }
}
