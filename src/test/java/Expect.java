/** Counts the answers that are not the due ones, and ends a test with them. */
final class Expect {
    interface Call {
        void run();
    }

    private static int wrong;
    private static int looks;

    private Expect() {
    }

    static void same(String call, long got, long due) {
        looks++;
        if (got != due) {
            tell(call + " answered " + got + ", due is " + due);
        }
    }

    static void same(String call, boolean got, boolean due) {
        same(call, got ? 1 : 0, due ? 1 : 0);
    }

    static void sameNumber(String call, double got, double due) {
        looks++;
        if (got != due) {
            tell(call + " answered " + got + ", due is " + due);
        }
    }

    static void sameText(String call, String got, String due) {
        looks++;
        if (!got.equals(due)) {
            tell(call + " answered " + got + ", due is " + due);
        }
    }

    /** The call has to throw just this exception, by a throw of its own, and to leave the street as it was. */
    static void refuses(String call, Hatpitch street, Class<? extends RuntimeException> due, Call body) {
        looks++;
        String before = Picture.of(street);
        RuntimeException got = null;
        try {
            body.run();
        } catch (RuntimeException e) {
            got = e;
        }
        if (got == null || got.getClass() != due) {
            tell(call + " threw " + got + ", due is " + due);
        } else if (!isThrownByHatpitch(got)) {
            tell(call + " left its exception to the machine: " + got);
        }
        sameText("the street behind " + call, Picture.of(street), before);
    }

    /** A list's exception comes out of the library, and a division's says so. */
    static boolean isThrownByHatpitch(RuntimeException e) {
        StackTraceElement[] trace = e.getStackTrace();
        return trace.length > 0
                && trace[0].getClassName().startsWith("Hatpitch")
                && e.getMessage() != null
                && !e.getMessage().equals("/ by zero");
    }

    static void tell(String fault) {
        wrong++;
        if (wrong <= 40) {
            System.out.println(fault);
        }
    }

    static void end(String test) {
        System.out.println(test + ": " + looks + " looks, " + wrong + " faults");
        if (wrong != 0 || looks == 0) {
            System.exit(1);
        }
    }
}
