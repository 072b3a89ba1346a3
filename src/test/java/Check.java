/** What the tests share: counts answers that are not the due ones, and ends the test. */
final class Check {
    interface Call {
        void make();
    }

    private static int wrong = 0;

    private Check() {
    }

    static void is(String what, long got, long due) {
        if (got != due) {
            wrong++;
            System.out.println(what + " answered " + got + ", due is " + due);
        }
    }

    static void yes(String what, boolean got) {
        is(what, got ? 1 : 0, 1);
    }

    static void no(String what, boolean got) {
        is(what, got ? 1 : 0, 0);
    }

    static void badArgument(String what, Call call) {
        thrown(what, call, IllegalArgumentException.class);
    }

    static void badState(String what, Call call) {
        thrown(what, call, IllegalStateException.class);
    }

    static void missing(String what, Call call) {
        thrown(what, call, java.util.NoSuchElementException.class);
    }

    static void refused(String what, Call call) {
        thrown(what, call, UnsupportedOperationException.class);
    }

    private static void thrown(String what, Call call, Class<? extends RuntimeException> due) {
        Class<?> got = null;
        try {
            call.make();
        } catch (RuntimeException e) {
            got = e.getClass();
        }
        if (got != due) {
            wrong++;
            System.out.println(what + " threw " + (got == null ? "nothing" : got.getSimpleName())
                    + ", due is " + due.getSimpleName());
        }
    }

    static void end() {
        if (wrong != 0) {
            System.out.println(wrong + " answers are not as due");
            System.exit(1);
        }
    }
}
