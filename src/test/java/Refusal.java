import java.util.function.Supplier;

/** A refused call: the exception that is due, and that nothing else has changed by it. */
final class Refusal {
    /** A call on a checker; a boolean answer counts 1 or 0. */
    interface Call {
        long on(FairChecker x);
    }

    /** A call with one number that varies. */
    interface CallWith {
        long on(FairChecker x, int number);
    }

    private static final int[] FAR = {Integer.MIN_VALUE, Integer.MIN_VALUE + 5, -256, 1 << 16, Integer.MAX_VALUE};

    private final Expect expect;

    Refusal(Expect expect) {
        this.expect = expect;
    }

    /** Whoever was refused answers then, and explored anew, as its twin does that was never asked. */
    void refused(String what, Class<? extends RuntimeException> due, Supplier<FairChecker> maker, Call call) {
        FairChecker x = maker.get();
        FairChecker twin = maker.get();
        expect.fails(what, due, () -> call.on(x));
        same(what + ", refused,", View.of(x), View.of(twin));
        if (twin.count(0) > 0) {
            x.explore();
            twin.explore();
            same(what + ", refused and explored,", View.of(x), View.of(twin));
        }
        same(what + ", refused: the sorts", View.ofSorts(x), View.ofSorts(twin));
    }

    /** Out are the number ahead of the least one, that behind the most one, and those far away. */
    void outside(String what, Class<? extends RuntimeException> due, Supplier<FairChecker> maker,
            int least, int most, CallWith call) {
        refused(what + " " + (least - 1), due, maker, x -> call.on(x, least - 1));
        refused(what + " " + (most + 1), due, maker, x -> call.on(x, most + 1));
        for (int far : FAR) {
            refused(what + " " + far, due, maker, x -> call.on(x, far));
        }
    }

    private void same(String what, String got, String due) {
        expect.isTrue(what + " is " + due + ", it was " + got + ", which", got.equals(due));
    }
}
