/** Counts the answers that are not as due; each test makes one and closes it at its end. */
final class Due {
    interface Call {
        long make();
    }

    private final String test;
    private int right = 0;
    private int wrong = 0;

    Due(String test) {
        this.test = test;
    }

    void is(String what, long want, long got) {
        if (want == got) {
            right++;
        } else {
            tell(what + " answered " + got + ", due is " + want);
        }
    }

    void is(String what, boolean want, boolean got) {
        is(what, want ? 1 : 0, got ? 1 : 0);
    }

    void holds(String what, boolean so) {
        is(what, true, so);
    }

    void same(String what, String want, String got) {
        if (want.equals(got)) {
            right++;
        } else {
            tell(what + " answered " + got + ", due is " + want);
        }
    }

    void index(String what, Call call) {
        thrown(what, IndexOutOfBoundsException.class, call);
    }

    void argument(String what, Call call) {
        thrown(what, IllegalArgumentException.class, call);
    }

    void state(String what, Call call) {
        thrown(what, IllegalStateException.class, call);
    }

    void thrown(String what, Class<?> want, Call call) {
        try {
            tell(what + " answered " + call.make() + ", due is " + want.getName());
        } catch (RuntimeException got) {
            if (got.getClass() == want) {
                right++;
            } else {
                tell(what + " threw " + got.getClass().getName() + ", due is " + want.getName());
            }
        }
    }

    private void tell(String text) {
        wrong++;
        System.out.println(test + ": " + text);
    }

    void close() {
        System.out.println(test + ": " + right + " answers as due, " + wrong + " not");
        if (wrong > 0) {
            System.exit(1);
        }
    }
}
