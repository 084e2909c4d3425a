/** Counts answers that are not as due and tells each; a test's main ends with end(). */
final class Check {
    interface Call {
        void run();
    }

    private int checked = 0;
    private int wrong = 0;

    void same(String what, Object got, Object due) {
        checked++;
        if (!got.equals(due)) {
            tell(what + " answered " + got + ", due is " + due);
        }
    }

    void isTrue(String what, boolean holds) {
        same(what, holds, true);
    }

    void refuses(String what, Class<? extends RuntimeException> due, Call call) {
        checked++;
        try {
            call.run();
        } catch (RuntimeException e) {
            if (e.getClass() != due) {
                tell(what + " threw " + e + ", due is " + due.getName());
            }
            return;
        }
        tell(what + " threw nothing, due is " + due.getName());
    }

    void noSuchSum(String what, Call call) {
        refuses(what, IndexOutOfBoundsException.class, call);
    }

    /** Fails a test that checked nothing, too. */
    void end() {
        if (wrong != 0 || checked == 0) {
            System.out.println(wrong + " of " + checked + " checks are wrong");
            System.exit(1);
        }
    }

    private void tell(String text) {
        wrong++;
        if (wrong <= 50) {
            System.out.println(text);
        }
    }
}
