/** Promises 19 and 20: branching, digest. */
public final class DigestTest {
    private static final Expect EXPECT = new Expect("DigestTest");

    public static void main(String[] args) {
        branching();
        digestOfNew();
        digestOfUnexplored();
        digestOfExplored();
        EXPECT.end();
    }

    private static FairChecker shakers() {
        FairChecker x = new FairChecker();
        x.addProcess(2);
        x.addProcess(2);
        x.addVariable(3, 2);
        x.addMove(0, 0, 1, 4);
        x.addMove(1, 0, 1, 4);
        x.addMove(1, 0, 0, 0);
        x.deed(0, 0, 2, 0, 1);
        return x;
    }

    private static void branching() {
        FairChecker x = shakers();
        EXPECT.same("19: unexplored", x.branching(), 0.0);
        x.explore();
        EXPECT.same("19: two steps of two states", x.branching(), 1.0);
        x.addMove(0, 1, 1, 0);
        EXPECT.same("19: unexplored", x.branching(), 0.0);
        x.explore();
        EXPECT.same("19: three steps of two states", x.branching(), 1.5);
        FairChecker y = new FairChecker();
        y.addProcess(3);
        y.addMove(0, 0, 1, 0);
        y.addMove(0, 0, 2, 0);
        y.explore();
        EXPECT.same("19: a third", y.branching(), 2.0 / 3.0);
        FairChecker z = new FairChecker();
        z.addProcess(1);
        z.explore();
        EXPECT.same("19: no steps", z.branching(), 0.0);
    }

    private static long digestOf(long... numbers) {
        long d = 397;
        for (long n : numbers) {
            d = d * 31 + n;
        }
        return d;
    }

    private static void digestOfNew() {
        EXPECT.same("20: of a new object", new FairChecker().digest(), digestOf(0, 0, 0, 0, 0, 0));
        EXPECT.same("20: of a new object", new FairChecker().digest(), 397L * 887_503_681L);
    }

    private static void digestOfUnexplored() {
        FairChecker x = shakers();
        x.addFact(0, 0, 0);
        EXPECT.same("20: unexplored", x.digest(), digestOf(2, 1, 3, 1, 0, 0));
    }

    private static void digestOfExplored() {
        FairChecker x = shakers();
        x.addFact(0, 0, 0);
        x.explore();
        x.addFact(2, 0, 3);
        EXPECT.same("20: explored", x.digest(), digestOf(2, 1, 3, 2, 2, 2,
            0, 0, 2, 2, 1, 0, 0, 1, 0, 0, 1, 1, -1, -1,
            1, 1, 3, 0,
            1, 2));
    }
}
