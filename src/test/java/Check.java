/** Counts the answers of a test and tells those that are not due. */
final class Check {
    interface Call {
        Object run();
    }

    private static int right = 0;
    private static int wrong = 0;

    private Check() {
    }

    /** What a call answers, or "throws." and the simple name of what it throws by itself. */
    static Object outcomeOf(Call call) {
        try {
            return call.run();
        } catch (RuntimeException e) {
            String thrower = isThrownByTheMachine(e) ? "machine." : "throws.";
            return thrower + e.getClass().getSimpleName();
        }
    }

    /** The class may throw by a throw statement of its own alone. */
    private static boolean isThrownByTheMachine(RuntimeException e) {
        StackTraceElement[] trace = e.getStackTrace();
        return trace.length == 0
                || trace[0].getClassName().startsWith("java.")
                || trace[0].getClassName().startsWith("jdk.")
                || "/ by zero".equals(e.getMessage());
    }

    static void due(String what, Object want, Call call) {
        same(what, want, outcomeOf(call));
    }

    static void same(String what, Object want, Object got) {
        if (want.equals(got)) {
            right++;
        } else {
            wrong++;
            System.out.println(what + " answered " + got + ", due is " + want);
        }
    }

    static void badArgument(String what, Call call) {
        due(what, "throws.IllegalArgumentException", call);
    }

    static void badState(String what, Call call) {
        due(what, "throws.IllegalStateException", call);
    }

    static void badIndex(String what, Call call) {
        due(what, "throws.IndexOutOfBoundsException", call);
    }

    static void noElement(String what, Call call) {
        due(what, "throws.NoSuchElementException", call);
    }

    static void unsupported(String what, Call call) {
        due(what, "throws.UnsupportedOperationException", call);
    }

    static void badArithmetic(String what, Call call) {
        due(what, "throws.ArithmeticException", call);
    }

    /** The best unit in both ways. */
    static void bestIs(String what, int want, Fuzzyseg x) {
        due("22 " + what, want, () -> x.best());
        due("23 " + what, want, () -> x.bestOfAll());
    }

    static void noBest(String what, Fuzzyseg x) {
        noElement("22 " + what, () -> x.best());
        noElement("23 " + what, () -> x.bestOfAll());
    }

    static void end() {
        System.out.println(right + " answers right, " + wrong + " wrong");
        if (wrong != 0 || right == 0) {
            System.exit(1);
        }
    }
}
