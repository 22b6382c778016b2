/** Counts what is not as due, and prints it. */
final class Expect {
    /** A call on a checker; a boolean answer counts 1 or 0. */
    interface Call {
        long answer();
    }

    static final Class<? extends RuntimeException> INDEX = IndexOutOfBoundsException.class;
    static final Class<? extends RuntimeException> ARGUMENT = IllegalArgumentException.class;
    static final Class<? extends RuntimeException> STATE = IllegalStateException.class;

    private final String test;
    private int checks;
    private int wrong;

    Expect(String test) {
        this.test = test;
    }

    void same(String what, long got, long due) {
        checks++;
        if (got != due) {
            tell(what + " answered " + got + ", due is " + due);
        }
    }

    void same(String what, double got, double due) {
        checks++;
        if (got != due) {
            tell(what + " answered " + got + ", due is " + due);
        }
    }

    void isTrue(String what, boolean got) {
        checks++;
        if (!got) {
            tell(what + " is not so");
        }
    }

    /** The very class is due: what the machine throws is of a class below it. */
    void fails(String what, Class<? extends RuntimeException> due, Call call) {
        checks++;
        try {
            tell(what + " answered " + call.answer() + ", due is " + due.getName());
        } catch (RuntimeException e) {
            if (e.getClass() != due) {
                tell(what + " threw " + e + ", due is " + due.getName());
            }
        }
    }

    void end() {
        System.out.println(test + ": " + checks + " checks, " + wrong + " wrong");
        if (wrong != 0) {
            System.exit(1);
        }
    }

    private void tell(String text) {
        wrong++;
        if (wrong <= 50) {
            System.out.println(test + ": " + text);
        }
    }
}
