/** Counts the answers of one test that are not as due. */
final class Check {
    interface Call {
        Object answer();
    }

    private static int wrong = 0;
    private static int asked = 0;

    private Check() {
    }

    static void equal(String what, long due, long got) {
        asked++;
        if (got != due) {
            wrong++;
            System.out.println(what + " answered " + got + ", due is " + due);
        }
    }

    static void same(String what, String due, String got) {
        asked++;
        if (!due.equals(got)) {
            wrong++;
            System.out.println(what + " is [" + got + "], due is [" + due + "]");
        }
    }

    static void isTrue(String what, boolean got) {
        equal(what, 1, got ? 1 : 0);
    }

    static void isFalse(String what, boolean got) {
        equal(what, 0, got ? 1 : 0);
    }

    static void state(String what, Call call) {
        fails(what, IllegalStateException.class, call);
    }

    static void argument(String what, Call call) {
        fails(what, IllegalArgumentException.class, call);
    }

    static void bounds(String what, Call call) {
        fails(what, IndexOutOfBoundsException.class, call);
    }

    static void unsupported(String what, Call call) {
        fails(what, UnsupportedOperationException.class, call);
    }

    private static void fails(String what, Class<?> due, Call call) {
        asked++;
        String got;
        try {
            got = String.valueOf(call.answer());
        } catch (RuntimeException e) {
            if (e.getClass() == due) {
                return;
            }
            got = e.getClass().getSimpleName();
        }
        wrong++;
        System.out.println(what + " gave " + got + ", due is " + due.getSimpleName());
    }

    /** The last line of every test. */
    static void finish() {
        System.out.println(asked + " answers, " + wrong + " not as due");
        if (wrong != 0 || asked == 0) {
            System.exit(1);
        }
    }
}
