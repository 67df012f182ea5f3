/** Counts the answers of one test that are not as due, and prints them. */
final class Check {
    private final String test;
    private int looked;
    private int wrong;

    Check(String test) {
        this.test = test;
    }

    void same(String what, long got, long want) {
        same(what, Long.toString(got), Long.toString(want));
    }

    void same(String what, boolean got, boolean want) {
        same(what, Boolean.toString(got), Boolean.toString(want));
    }

    void same(String what, String got, String want) {
        looked++;
        if (!got.equals(want)) {
            wrong++;
            System.out.println(test + ": " + what + ": answered " + shown(got) + ", due is " + shown(want));
        }
    }

    void refusesArgument(String what, Runnable call) {
        same(what, thrownBy(call), "IllegalArgumentException");
    }

    void refusesState(String what, Runnable call) {
        same(what, thrownBy(call), "IllegalStateException");
    }

    void takes(String what, Runnable call) {
        same(what, thrownBy(call), "nothing");
    }

    static String thrownBy(Runnable call) {
        try {
            call.run();
            return "nothing";
        } catch (RuntimeException e) {
            return e.getClass().getSimpleName();
        }
    }

    int wrongOnes() {
        return wrong;
    }

    void end() {
        System.out.println(test + ": " + looked + " answers looked at, " + wrong + " not as due");
        if (wrong != 0) {
            System.exit(1);
        }
    }

    private static String shown(String text) {
        return text.replace("\n", "|");
    }
}
