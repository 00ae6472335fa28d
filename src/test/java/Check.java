/** Counts what is not as due; a test's main ends with {@link #finish}. */
final class Check {
    private static int made = 0;
    private static int wrong = 0;

    interface Call {
        Object answer();
    }

    private Check() {
    }

    static void same(String label, Object due, Call call) {
        made++;
        Object got;
        try {
            got = call.answer();
        } catch (RuntimeException thrown) {
            got = "throws " + thrown.getClass().getName();
        }
        if (!due.equals(got)) {
            complain(label + " answered " + got + ", due is " + due);
        }
    }

    /** The very class is asked for: a subclass of it would come from the machine. */
    static void refused(String label, Class<? extends RuntimeException> due, Call call) {
        made++;
        try {
            complain(label + " answered " + call.answer() + ", due is " + due.getName());
        } catch (RuntimeException thrown) {
            if (thrown.getClass() != due || !isThrownByClass(thrown)) {
                complain(label + " throws " + thrown + ", due is " + due.getName());
            }
        }
    }

    /** A refused call that leaves all as it was: the digest tells the whole state. */
    static void refusedUnchanged(
            String label, CaneSlices shop, Class<? extends RuntimeException> due, Call call) {
        long before = shop.digest();
        refused(label, due, call);
        same(label + ": nothing changed", before, shop::digest);
    }

    static void noPlace(String label, Call call) {
        refused(label, IndexOutOfBoundsException.class, call);
    }

    static void badArgument(String label, Call call) {
        refused(label, IllegalArgumentException.class, call);
    }

    static void badState(String label, Call call) {
        refused(label, IllegalStateException.class, call);
    }

    static boolean isThrownByClass(RuntimeException thrown) {
        StackTraceElement[] trace = thrown.getStackTrace();
        return trace.length > 0 && trace[0].getClassName().equals("CaneSlices");
    }

    static void complain(String text) {
        wrong++;
        System.out.println(text);
    }

    static void finish() {
        System.out.println(made + " answers looked at, " + wrong + " not as due");
        if (wrong != 0 || made == 0) {
            System.exit(1);
        }
    }
}
