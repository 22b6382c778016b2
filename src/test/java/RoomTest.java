import com.sun.management.ThreadMXBean;
import java.lang.management.ManagementFactory;

/** The dearest protocol, and the room that all calls of a run take. */
public final class RoomTest {
    private static final Expect EXPECT = new Expect("RoomTest");
    private static final int STATES = 400;
    private static final int STEPS = 2560;
    // The room is 7.3 million fields and elements: this is less, at four bytes each.
    private static final long MOST_BYTES = 16L << 20;

    public static void main(String[] args) {
        long before = allocated();
        FairChecker x = Protocols.dearest(3);
        dearestSteps(x);
        dearestQuestions(x);
        long dear = allocated() - before;
        EXPECT.isTrue("the dearest run takes little room: " + dear, dear < MOST_BYTES);
        tooMany();
        manyExplorings();
        EXPECT.end();
    }

    private static long allocated() {
        return ((ThreadMXBean) ManagementFactory.getThreadMXBean()).getThreadAllocatedBytes(Thread.currentThread().getId());
    }

    private static void dearestSteps(FairChecker x) {
        EXPECT.same("8: explore()", x.explore(), STATES);
        EXPECT.same("7: all steps", x.count(5), STATES * STEPS);
        EXPECT.same("19: branching()", x.branching(), 2560.0);
        int[] last = {399, 3, 15, 4, 15};
        int[] first = {0, 0, 0, 1, 0};
        for (int what = 0; what < 5; what++) {
            EXPECT.same("10: the last step of all", x.step(STATES - 1, STEPS - 1, what), last[what]);
            EXPECT.same("10: the first step of all", x.step(0, 0, what), first[what]);
        }
        EXPECT.same("9: steps of the last one", x.state(STATES - 1, 9), STEPS);
        EXPECT.fails("10: one step more", Expect.INDEX, () -> x.step(STATES - 1, STEPS, 0));
    }

    private static void dearestQuestions(FairChecker x) {
        x.addFact(1, 0, 9);
        x.addFact(1, 0, 0);
        x.addFact(2, 2, 2);
        for (int i = 0; i < 30; i++) {
            EXPECT.same("15: it may always be another value", x.leads(1, 0), x.where(1, true));
            EXPECT.same("17: all without it", x.trapped(0), STATES - x.where(0, false));
            EXPECT.same("17: all without it", x.trapped(2), STATES - x.where(2, false));
            EXPECT.isTrue("16: isBad(1, 399)", x.isBad(1, STATES - 1) == !x.holds(1, STATES - 1));
        }
        long digest = x.digest();
        for (int i = 0; i < 10; i++) {
            EXPECT.same("8: explored again", x.explore(), STATES);
        }
        EXPECT.same("20: the same again", x.digest(), digest);
    }

    private static void tooMany() {
        FairChecker x = Protocols.dearest(4);
        for (int i = 0; i < 3; i++) {
            EXPECT.same("8: 500 states", x.explore(), -1);
            EXPECT.same("7: no steps", x.count(5), 0);
        }
        x.deed(2, 4, 0, 0, 0);
        EXPECT.same("8: 400 states", x.explore(), STATES);
        EXPECT.same("7: all steps", x.count(5), STATES * STEPS);
    }

    private static void manyExplorings() {
        long before = allocated();
        FairChecker x = Protocols.dearest(3);
        for (int i = 0; i < 300; i++) {
            x.guard(4, i % 16, i % 5, 2, i % 4);
            if (i % 10 == 0) {
                x.explore();
            }
        }
        long taken = allocated() - before;
        EXPECT.isTrue("many explorings take little room: " + taken, taken < MOST_BYTES);
    }
}
