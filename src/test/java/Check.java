/** What the tests share: counts answers that are not the due ones, and ends the test. */
final class Check {
    interface Call {
        void make();
    }

    interface CallWith {
        void make(int number);
    }

    private static int wrong = 0;

    private Check() {
    }

    static void is(String what, long got, long due) {
        if (got != due) {
            wrong++;
            System.out.println(what + " answered " + got + ", due is " + due);
        }
    }

    static void yes(String what, boolean got) {
        is(what, got ? 1 : 0, 1);
    }

    static void no(String what, boolean got) {
        is(what, got ? 1 : 0, 0);
    }

    static void badArgument(String what, Call call) {
        thrown(what, call, IllegalArgumentException.class);
    }

    static void badState(String what, Call call) {
        thrown(what, call, IllegalStateException.class);
    }

    static void missing(String what, Call call) {
        thrown(what, call, java.util.NoSuchElementException.class);
    }

    static void refused(String what, Call call) {
        thrown(what, call, UnsupportedOperationException.class);
    }

    static void badArguments(String what, int lowest, int highest, CallWith call) {
        for (int number : outside(lowest, highest)) {
            badArgument(what + " " + number, () -> call.make(number));
        }
    }

    static void allMissing(String what, int lowest, int highest, CallWith call) {
        for (int number : outside(lowest, highest)) {
            missing(what + " " + number, () -> call.make(number));
        }
    }

    /**
     * Numbers that are not lowest .. highest: its two neighbours first, then the ends of int, and
     * such as a mask, a shift or a narrow type would bring back inside.
     */
    static int[] outside(int lowest, int highest) {
        return java.util.stream.IntStream
                .of(lowest - 1, highest + 1, Integer.MIN_VALUE, Integer.MAX_VALUE, Integer.MIN_VALUE + lowest,
                        lowest + 32, lowest + 64, lowest + 256, lowest + 65536, -highest, ~lowest)
                .filter(number -> number < lowest || number > highest)
                .toArray();
    }

    static void thrown(String what, Call call, Class<? extends RuntimeException> due) {
        Class<?> got = null;
        try {
            call.make();
        } catch (RuntimeException e) {
            got = e.getClass();
        }
        if (got != due) {
            wrong++;
            System.out.println(what + " threw " + (got == null ? "nothing" : got.getSimpleName())
                    + ", due is " + due.getSimpleName());
        }
    }

    static void end() {
        if (wrong != 0) {
            System.out.println(wrong + " answers are not as due");
            System.exit(1);
        }
    }
}
