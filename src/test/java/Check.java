/** Counts the answers that are not as due, and tells them. */
final class Check {
    private static int wrong = 0;

    private Check() {
    }

    static void same(String call, long got, long due) {
        if (got != due) {
            fault(call, Long.toString(got), Long.toString(due));
        }
    }

    static void same(String call, boolean got, boolean due) {
        if (got != due) {
            fault(call, Boolean.toString(got), Boolean.toString(due));
        }
    }

    static void same(String call, double got, double due) {
        if (Double.doubleToLongBits(got) != Double.doubleToLongBits(due)) {
            fault(call, Double.toString(got), Double.toString(due));
        }
    }

    static void same(String call, String got, String due) {
        if (!due.equals(got)) {
            fault(call, got, due);
        }
    }

    static void noIndex(String call, Threeboxes bank, Runnable it) {
        refuses(call, bank, it, IndexOutOfBoundsException.class);
    }

    static void noArgument(String call, Threeboxes bank, Runnable it) {
        refuses(call, bank, it, IllegalArgumentException.class);
    }

    static void noState(String call, Threeboxes bank, Runnable it) {
        refuses(call, bank, it, IllegalStateException.class);
    }

    /** The name of the exception; it must come from a throw of Threeboxes, not from the machine or its library. */
    static String nameOf(RuntimeException e) {
        StackTraceElement[] trace = e.getStackTrace();
        boolean isOwn = trace.length > 0 && trace[0].getClassName().startsWith("Threeboxes");
        return isOwn ? e.getClass().getName() : e.getClass().getName() + " of the machine";
    }

    /** The call must throw just this, and leave the bank as it was. */
    static void refuses(String call, Threeboxes bank, Runnable it, Class<?> due) {
        String before = State.of(bank);
        String got = "nothing thrown";
        try {
            it.run();
        } catch (RuntimeException e) {
            got = nameOf(e);
        }
        same(call, got, due.getName());
        same(call + " changed something", State.of(bank), before);
    }

    private static void fault(String call, String got, String due) {
        wrong++;
        System.out.println(call + " answered " + got + ", due is " + due);
    }

    static void end() {
        if (wrong != 0) {
            System.out.println(wrong + " answers are not as due");
            System.exit(1);
        }
    }
}
