import java.util.function.IntSupplier;

/** Collects what is not as due, and ends the program with exit code 1 if there was such. */
final class Expect {
    private static int wrong = 0;
    private static int looked = 0;

    private Expect() {
    }

    static void same(String what, long got, long want) {
        looked++;
        if (got != want) {
            report(what + ": answered " + got + ", due is " + want);
        }
    }

    static void sameText(String what, String got, String want) {
        looked++;
        if (!got.equals(want)) {
            report(what + ": is " + got + ", due is " + want);
        }
    }

    static void holds(String what, boolean does) {
        looked++;
        if (!does) {
            report(what + ": does not hold");
        }
    }

    static void throwsIndex(String what, IntSupplier call) {
        throwsJust(what, IndexOutOfBoundsException.class, call);
    }

    static void throwsArgument(String what, IntSupplier call) {
        throwsJust(what, IllegalArgumentException.class, call);
    }

    static void throwsState(String what, IntSupplier call) {
        throwsJust(what, IllegalStateException.class, call);
    }

    static void throwsUnsupported(String what, IntSupplier call) {
        throwsJust(what, UnsupportedOperationException.class, call);
    }

    static void throwsJust(String what, Class<?> due, IntSupplier call) {
        looked++;
        try {
            report(what + ": answered " + call.getAsInt() + ", due is " + due.getSimpleName());
        } catch (RuntimeException thrown) {
            if (thrown.getClass() != due) {
                report(what + ": threw " + thrown + ", due is " + due.getSimpleName());
            }
        }
    }

    private static void report(String line) {
        wrong++;
        System.out.println(line);
    }

    static void end() {
        System.out.println(looked + " looked at, " + wrong + " wrong");
        if (wrong != 0) {
            System.exit(1);
        }
    }
}
