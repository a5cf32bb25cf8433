/** Compares answers with the ones that are due, and ends a test with exit code 1 if one was wrong. */
final class Expect {
    private static int asked = 0;
    private static int wrong = 0;

    private Expect() {
    }

    static void due(String call, long got, long want) {
        asked++;
        if (got != want) {
            wrong++;
            System.out.println(call + " answered " + got + ", due is " + want);
        }
    }

    static void due(String call, boolean got, boolean want) {
        due(call, got ? 1 : 0, want ? 1 : 0);
    }

    static void due(String call, String got, String want) {
        asked++;
        if (!got.equals(want)) {
            wrong++;
            System.out.println(call + " answered " + got + ", due is " + want);
        }
    }

    /** The call throws just that class, and the object shows afterwards what it showed before. */
    static void dueThrow(String call, Codec x, Class<?> want, Runnable made) {
        String before = Show.all(x);
        due(call, Show.thrownBy(made), want.getSimpleName());
        due("the state after " + call, Show.all(x), before);
    }

    static void dueFine(String call, Runnable made) {
        due(call, Show.thrownBy(made), "nothing");
    }

    static void dueUnchanged(String call, Codec x, String before) {
        due("the state after " + call, Show.all(x), before);
    }

    static void end() {
        System.out.println(asked + " answers, " + wrong + " of them not as due");
        if (wrong != 0 || asked == 0) {
            System.exit(1);
        }
    }
}
