/** What all tests use: each prints what is not as due, and ends with exit code 1 then. */
final class Check {
    private static int checks = 0;
    private static int wrong = 0;

    private Check() {
    }

    static void due(String call, long got, long want) {
        checks++;
        if (got != want) {
            wrong++;
            System.out.println(call + " answered " + got + ", due is " + want);
        }
    }

    static void due(String call, boolean got, boolean want) {
        due(call, got ? 1 : 0, want ? 1 : 0);
    }

    /** The class must be the one that is named: one below it comes from the machine. */
    static void thrown(String name, Class<? extends RuntimeException> want, Runnable call) {
        checks++;
        Class<?> got = classThrownBy(call);
        if (got != want) {
            wrong++;
            System.out.println(name + " threw " + got + ", due is " + want);
        }
    }

    static void noIndex(String name, Runnable call) {
        thrown(name, IndexOutOfBoundsException.class, call);
    }

    static void noArgument(String name, Runnable call) {
        thrown(name, IllegalArgumentException.class, call);
    }

    static void noState(String name, Runnable call) {
        thrown(name, IllegalStateException.class, call);
    }

    static Class<?> classThrownBy(Runnable call) {
        try {
            call.run();
            return null;
        } catch (RuntimeException e) {
            return e.getClass();
        }
    }

    static void end() {
        System.out.println(checks + " checks, " + wrong + " wrong");
        if (wrong != 0 || checks == 0) {
            System.exit(1);
        }
    }
}
