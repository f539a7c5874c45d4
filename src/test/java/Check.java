/** What the tests share: compares answers, counts and prints the wrong ones, ends the test. */
final class Check {
    interface Call {
        void go();
    }

    private static int checked = 0;
    private static int wrong = 0;

    private Check() {
    }

    static void same(String what, long got, long due) {
        checked++;
        if (got != due) {
            fail(what + " answered " + got + ", due is " + due);
        }
    }

    static void sameDouble(String what, double got, double due) {
        checked++;
        if (Double.compare(got, due) != 0) {
            fail(what + " answered " + got + ", due is " + due);
        }
    }

    static void holds(String what, boolean itHolds) {
        checked++;
        if (!itHolds) {
            fail(what + " does not hold");
        }
    }

    /** The call throws just this kind, by a throw statement of the program, and changes nothing. */
    static void refused(String what, PommelTows village, Class<? extends RuntimeException> due, Call call) {
        checked++;
        long before = village.digest();
        RuntimeException thrown = thrownBy(call);
        if (thrown == null) {
            fail(what + " threw nothing, due is " + due.getSimpleName());
        } else if (thrown.getClass() != due) {
            fail(what + " threw " + thrown + ", due is " + due.getSimpleName());
        }
        if (village.digest() != before) {
            fail(what + " threw and changed the village");
        }
    }

    static RuntimeException thrownBy(Call call) {
        try {
            call.go();
            return null;
        } catch (RuntimeException e) {
            return e;
        }
    }

    static void fail(String text) {
        wrong++;
        if (wrong <= 40) {
            System.out.println(text);
        }
    }

    static void end(String test) {
        System.out.println(test + ": " + checked + " checks, " + wrong + " wrong");
        if (wrong != 0) {
            System.exit(1);
        }
    }
}
