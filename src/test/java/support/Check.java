/** Counts and prints what is not as due; a test's main method ends with end(). */
final class Check {
    interface Call {
        void make();
    }

    private static int checks = 0;
    private static int wrong = 0;

    private Check() {
    }

    static void same(String what, long due, long got) {
        checks++;
        if (due != got) {
            report(what + " answered " + got + ", due is " + due);
        }
    }

    static void same(String what, double due, double got) {
        checks++;
        if (due != got) {
            report(what + " answered " + got + ", due is " + due);
        }
    }

    static void is(String what, boolean holds) {
        checks++;
        if (!holds) {
            report(what + " does not hold");
        }
    }

    /** The call throws just this exception, and changes nothing. */
    static void refuses(String what, RumourPipes x, Class<? extends RuntimeException> due, Call call) {
        checks++;
        long before = x.digest();
        String got = "nothing";
        try {
            call.make();
        } catch (RuntimeException e) {
            got = e.getClass().getName();
        }
        if (!got.equals(due.getName())) {
            report(what + " throws " + got + ", due is " + due.getName());
        }
        if (x.digest() != before) {
            report(what + " throws, and changes something");
        }
    }

    static void report(String text) {
        wrong++;
        if (wrong <= 50) {
            System.out.println(text);
        }
    }

    static void end() {
        System.out.println(checks + " checks, " + wrong + " wrong");
        if (wrong != 0 || checks == 0) {
            System.exit(1);
        }
    }
}
