/** Counts the checks of one test program and ends it with exit code 1 if one of them failed. */
final class Check {
    private static int passed = 0;
    private static int failed = 0;

    private Check() {
    }

    interface Call {
        Object answer();
    }

    static void that(String what, Object got, Object want) {
        if (want.equals(got)) {
            passed++;
        } else {
            failed++;
            System.out.println("  " + what + ": answered " + got + ", due is " + want);
        }
    }

    static void refuses(String what, Class<? extends RuntimeException> due, Call call) {
        that(what, outcome(call), due.getSimpleName());
    }

    static Object outcome(Call call) {
        try {
            return call.answer();
        } catch (RuntimeException e) {
            return e.getClass().getSimpleName();
        }
    }

    static void done(String test) {
        System.out.println(test + ": " + passed + " checks passed, " + failed + " failed");
        if (failed != 0 || passed == 0) {
            System.exit(1);
        }
    }
}
