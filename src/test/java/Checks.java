/** Counts what a test checks, prints what is wrong, and ends the test with exit code 1 if something was. */
final class Checks {
    interface Call {
        void make();
    }

    private int made = 0;
    private int wrong = 0;

    void same(String what, long got, long want) {
        made++;
        if (got != want) {
            tell(what + " answered " + got + ", due is " + want);
        }
    }

    void same(String what, boolean got, boolean want) {
        same(what, got ? 1 : 0, want ? 1 : 0);
    }

    void same(String what, double got, double want) {
        made++;
        if (got != want) {
            tell(what + " answered " + got + ", due is " + want);
        }
    }

    /** The call throws just this exception, by the class itself and not the library, and the desk answers as ahead. */
    void refused(String what, Class<? extends RuntimeException> due, ApprovalGrid desk, Call call) {
        made++;
        long before = desk.digest();
        Class<?> thrown = null;
        try {
            call.make();
        } catch (RuntimeException e) {
            thrown = e.getClass();
            if (!e.getStackTrace()[0].getClassName().equals("ApprovalGrid")) {
                tell(what + " threw by " + e.getStackTrace()[0]);
            }
        }
        if (thrown != due) {
            tell(what + " threw " + thrown + ", due is " + due);
        }
        if (desk.digest() != before) {
            tell(what + " changed something");
        }
    }

    void noIndex(String what, ApprovalGrid desk, Call call) {
        refused(what, IndexOutOfBoundsException.class, desk, call);
    }

    void noArgument(String what, ApprovalGrid desk, Call call) {
        refused(what, IllegalArgumentException.class, desk, call);
    }

    void noState(String what, ApprovalGrid desk, Call call) {
        refused(what, IllegalStateException.class, desk, call);
    }

    void tell(String text) {
        wrong++;
        System.out.println(text);
    }

    void end() {
        System.out.println(made + " checks, " + wrong + " wrong");
        if (wrong != 0 || made == 0) {
            System.exit(1);
        }
    }
}
