import java.util.Objects;

/** Compares answers with those that are due, and counts the wrong ones. */
final class Check {
    /** A call whose answer, or whose exception, is looked at. */
    interface Call {
        Object answer();
    }

    private final String name;
    private int wrong;
    private int looked;

    Check(String name) {
        this.name = name;
    }

    void same(String what, Object got, Object due) {
        looked++;
        if (!Objects.equals(got, due)) {
            wrong++;
            System.out.println(name + ": " + what + " answered " + got + ", due is " + due);
        }
    }

    int looked() {
        return looked;
    }

    void throwsIllegalArgument(String what, Call call) {
        same(what, outcome(call), "throws.IllegalArgumentException");
    }

    void throwsIllegalState(String what, Call call) {
        same(what, outcome(call), "throws.IllegalStateException");
    }

    void throwsOutOfBounds(String what, Call call) {
        same(what, outcome(call), "throws.IndexOutOfBoundsException");
    }

    /** The answer, or the exact class of what was thrown: a subclass thrown by the machine is another one. */
    static Object outcome(Call call) {
        try {
            return call.answer();
        } catch (RuntimeException thrown) {
            return "throws." + thrown.getClass().getSimpleName();
        }
    }

    void end() {
        System.out.println(name + ": " + looked + " answers, " + wrong + " wrong");
        if (wrong != 0) {
            System.exit(1);
        }
    }
}
