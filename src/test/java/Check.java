/** Counts the calls whose answer is not the one that is due, and ends a test with exit code 1 if there was one. */
final class Check {
    interface Call {
        Object answer();
    }

    static final Class<?> ARGUMENT = IllegalArgumentException.class;
    static final Class<?> ELEMENT = java.util.NoSuchElementException.class;
    static final Class<?> UNSUPPORTED = UnsupportedOperationException.class;
    static final Class<?> STATE = IllegalStateException.class;
    static final Class<?> BOUNDS = IndexOutOfBoundsException.class;
    static final Class<?> ARITHMETIC = ArithmeticException.class;

    private final String name;
    private int calls;
    private int wrong;

    Check(String name) {
        this.name = name;
    }

    /** What a call answers, or the very class of what it throws. */
    static Object answerOf(Call call) {
        try {
            return call.answer();
        } catch (RuntimeException e) {
            return e.getClass();
        }
    }

    void due(String what, Object want, Call call) {
        same(what, want, answerOf(call));
    }

    void same(String what, Object want, Object got) {
        calls++;
        if (!want.equals(got)) {
            wrong++;
            if (wrong <= 50) {
                System.out.println(name + ": " + what + " answered " + got + ", due is " + want);
            }
        }
    }

    void end() {
        System.out.println(name + ": " + calls + " answers, " + wrong + " wrong");
        if (wrong != 0 || calls == 0) {
            System.exit(1);
        }
    }
}
