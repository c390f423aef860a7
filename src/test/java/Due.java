import java.util.Objects;

/** Counts the answers that are not as due; a test ends with end(). */
final class Due {
    private static final int MOST_TOLD = 40;
    private static int checked = 0;
    private static int wrong = 0;

    private Due() {
    }

    /** A call whose answer, or whose exception, is asked. */
    interface Call {
        Object answer();
    }

    static void is(String what, Object got, Object want) {
        checked++;
        if (!Objects.equals(got, want)) {
            wrong++;
            if (wrong <= MOST_TOLD) {
                System.out.println(what + " answered " + got + ", due is " + want);
            }
        }
    }

    /** The answer, or "throws.Name" of the exception's own class: a class below the due one is wrong, too. */
    static Object of(Call call) {
        try {
            return call.answer();
        } catch (RuntimeException e) {
            return "throws." + e.getClass().getSimpleName();
        }
    }

    static void outside(String what, Call call) {
        is(what, of(call), "throws.IndexOutOfBoundsException");
    }

    static void illegal(String what, Call call) {
        is(what, of(call), "throws.IllegalArgumentException");
    }

    static void state(String what, Call call) {
        is(what, of(call), "throws.IllegalStateException");
    }

    static int checked() {
        return checked;
    }

    static int wrong() {
        return wrong;
    }

    static void end() {
        System.out.println(checked + " answers checked, " + wrong + " not as due");
        if (wrong != 0) {
            System.exit(1);
        }
    }
}
