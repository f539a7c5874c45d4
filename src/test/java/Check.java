/** What the tests share: compares answers, counts and prints the wrong ones, ends the test. */
final class Check {
    static final Class<IndexOutOfBoundsException> INDEX = IndexOutOfBoundsException.class;
    static final Class<IllegalArgumentException> ARGUMENT = IllegalArgumentException.class;
    static final Class<IllegalStateException> STATE = IllegalStateException.class;
    static final int LOWEST = Integer.MIN_VALUE;
    static final int HIGHEST = Integer.MAX_VALUE;

    interface Call {
        void go();
    }

    /** Makes the same village each time. */
    interface Maker {
        PommelTows make();
    }

    interface Use {
        void of(PommelTows x);
    }

    private static final int MOST_PRINTED = 40;

    private static String test = "";
    private static int checked = 0;
    private static int wrong = 0;

    private Check() {
    }

    /** What is checked from now on is printed under this name. */
    static void begin(String name) {
        test = name;
    }

    static int checks() {
        return checked;
    }

    static void same(String what, long got, long due) {
        checked++;
        if (got != due) {
            fail(what + " answered " + got + ", due is " + due);
        }
    }

    static void sameDouble(String what, double got, double due) {
        checked++;
        if (Double.compare(got, due) != 0) {
            fail(what + " answered " + got + ", due is " + due);
        }
    }

    static void holds(String what, boolean itHolds) {
        checked++;
        if (!itHolds) {
            fail(what + " does not hold");
        }
    }

    /** The call throws just this kind, by a throw statement of the program, and changes nothing. */
    static void refused(String what, PommelTows village, Class<? extends RuntimeException> due, Call call) {
        long before = village.digest();
        thrown(what, due, call);
        if (village.digest() != before) {
            fail(what + " threw and changed the village");
        }
    }

    /** As above, but all that can be seen is compared, with a village that never had the call. */
    static void refused(String what, Maker maker, Class<? extends RuntimeException> due, Use use) {
        PommelTows village = maker.make();
        thrown(what, due, () -> use.of(village));
        Look.alike(what + " threw, and then", village, maker.make());
    }

    static void accepted(String what, Maker maker, Use use) {
        checked++;
        PommelTows village = maker.make();
        RuntimeException thrown = thrownBy(() -> use.of(village));
        if (thrown != null) {
            fail(what + " threw " + thrown + ", due is an answer");
        }
    }

    private static void thrown(String what, Class<? extends RuntimeException> due, Call call) {
        checked++;
        RuntimeException thrown = thrownBy(call);
        if (thrown == null) {
            fail(what + " threw nothing, due is " + due.getSimpleName());
        } else if (thrown.getClass() != due) {
            fail(what + " threw " + thrown + ", due is " + due.getSimpleName());
        }
    }

    static RuntimeException thrownBy(Call call) {
        try {
            call.go();
            return null;
        } catch (RuntimeException e) {
            return e;
        }
    }

    static void fail(String text) {
        wrong++;
        if (wrong <= MOST_PRINTED) {
            System.out.println(test.isEmpty() ? text : test + ": " + text);
        }
    }

    static void end(String test) {
        System.out.println(test + ": " + checked + " checks, " + wrong + " wrong");
        if (wrong != 0) {
            System.exit(1);
        }
    }
}
