/** Promises 11 to 14: addFact, holds, where, stuck. */
public final class FactsTest {
    private static final Expect EXPECT = new Expect("FactsTest");

    public static void main(String[] args) {
        addFact();
        twelveFacts();
        holds();
        deepFacts();
        where();
        stuck();
        EXPECT.end();
    }

    /** A process that goes 0, 1, 2 and counts a variable from 1 to 3 while it goes. */
    private static FairChecker chain() {
        FairChecker x = new FairChecker();
        x.addProcess(3);
        x.addVariable(5, 1);
        x.addMove(0, 0, 1, 0);
        x.addMove(0, 1, 2, 0);
        x.deed(0, 0, 2, 0, 1);
        x.deed(0, 1, 2, 0, 1);
        return x;
    }

    private static void addFact() {
        FairChecker x = chain();
        int[][] bad = {{-1, 0, 0}, {6, 0, 0}, {0, 1, 0}, {0, -1, 0}, {0, 0, 3}, {0, 0, -1}, {1, 1, 0}, {1, -1, 0},
            {1, 0, 10}, {1, 0, -1}, {2, 1, 0}, {2, 0, 10}, {2, 0, -1}, {3, 0, 0}, {4, 0, 0}, {5, 0, 0}};
        for (int[] b : bad) {
            EXPECT.fails("11: addFact(" + b[0] + ", " + b[1] + ", " + b[2] + ")", Expect.ARGUMENT,
                () -> x.addFact(b[0], b[1], b[2]));
        }
        EXPECT.same("11: addFact", x.addFact(0, 0, 2), 0);
        EXPECT.same("11: a value beyond the greatest one", x.addFact(1, 0, 9), 1);
        EXPECT.same("11: addFact", x.addFact(2, 0, 0), 2);
        EXPECT.same("11: addFact", x.addFact(3, 2, 0), 3);
        EXPECT.same("11: addFact", x.addFact(4, 3, 0), 4);
        EXPECT.same("11: one fact twice", x.addFact(5, 4, 4), 5);
        int[][] badNow = {{3, 6, 0}, {3, -1, 0}, {3, 0, 1}, {3, 0, -1}, {4, 6, 0}, {4, 0, 6}, {4, -1, 0}, {4, 0, -1},
            {5, 6, 0}, {5, 0, 6}, {5, 0, -1}};
        for (int[] b : badNow) {
            EXPECT.fails("11: addFact(" + b[0] + ", " + b[1] + ", " + b[2] + ")", Expect.ARGUMENT,
                () -> x.addFact(b[0], b[1], b[2]));
        }
        EXPECT.same("11: count(3)", x.count(3), 6);
    }

    private static void twelveFacts() {
        FairChecker x = chain();
        for (int f = 0; f < 12; f++) {
            EXPECT.same("11: addFact", x.addFact(1, 0, f % 10), f);
        }
        EXPECT.fails("11: a thirteenth fact", Expect.STATE, () -> x.addFact(1, 0, 0));
        EXPECT.fails("11: a thirteenth fact", Expect.STATE, () -> x.addFact(4, 11, 11));
        EXPECT.fails("11: a thirteenth fact, wrong", Expect.ARGUMENT, () -> x.addFact(1, 0, 10));
        EXPECT.same("11: count(3)", x.count(3), 12);
    }

    private static void holds() {
        FairChecker x = chain();
        x.addFact(0, 0, 1);
        EXPECT.fails("12: unexplored", Expect.INDEX, () -> x.holds(0, 0) ? 1 : 0);
        x.explore();
        x.addFact(1, 0, 2);
        x.addFact(2, 0, 2);
        x.addFact(3, 2, 0);
        x.addFact(4, 0, 2);
        x.addFact(5, 0, 3);
        x.addFact(4, 2, 3);
        boolean[][] due = {{false, true, false}, {false, true, false}, {true, true, false}, {false, false, true},
            {false, true, false}, {false, true, true}, {false, false, false}};
        for (int f = 0; f < due.length; f++) {
            for (int s = 0; s < 3; s++) {
                EXPECT.isTrue("12: holds(" + f + ", " + s + ")", x.holds(f, s) == due[f][s]);
            }
        }
        int[][] bad = {{-1, 0}, {7, 0}, {12, 0}, {0, -1}, {0, 3}, {0, 400}};
        for (int[] b : bad) {
            EXPECT.fails("12: holds(" + b[0] + ", " + b[1] + ")", Expect.INDEX, () -> x.holds(b[0], b[1]) ? 1 : 0);
        }
    }

    private static void deepFacts() {
        FairChecker x = chain();
        x.addFact(0, 0, 1);
        for (int f = 1; f < 12; f++) {
            x.addFact(3, f - 1, 0);
        }
        x.explore();
        for (int f = 0; f < 12; f++) {
            EXPECT.isTrue("12: not of not " + f, x.holds(f, 1) == (f % 2 == 0));
            EXPECT.isTrue("12: not of not " + f, x.holds(f, 0) == (f % 2 == 1));
        }
    }

    private static void where() {
        FairChecker x = chain();
        x.addFact(2, 0, 2);
        x.addFact(0, 0, 2);
        x.addFact(1, 0, 9);
        EXPECT.fails("13: unexplored", Expect.STATE, () -> x.where(0, true));
        EXPECT.fails("13: unexplored", Expect.STATE, () -> x.where(0, false));
        EXPECT.fails("13: no such fact ahead of unexplored", Expect.INDEX, () -> x.where(3, false));
        x.explore();
        EXPECT.same("13: first", x.where(0, true), 0);
        EXPECT.same("13: number", x.where(0, false), 2);
        EXPECT.same("13: first", x.where(1, true), 2);
        EXPECT.same("13: number", x.where(1, false), 1);
        EXPECT.same("13: none", x.where(2, true), -1);
        EXPECT.same("13: none", x.where(2, false), 0);
        EXPECT.fails("13: no such fact", Expect.INDEX, () -> x.where(3, true));
        EXPECT.fails("13: no such fact", Expect.INDEX, () -> x.where(-1, false));
    }

    private static void stuck() {
        FairChecker x = chain();
        EXPECT.fails("14: unexplored", Expect.STATE, x::stuck);
        x.explore();
        EXPECT.same("14: the last one", x.stuck(), 2);
        x.addMove(0, 2, 2, 0);
        x.explore();
        EXPECT.same("14: none", x.stuck(), -1);
        x.guard(0, 2, 1, 0, 9);
        x.addMove(0, 0, 2, 0);
        x.explore();
        EXPECT.same("14: of two the first one", x.stuck(), 2);
        EXPECT.same("14: of two the first one", x.count(4), 4);
        FairChecker one = new FairChecker();
        one.addProcess(1);
        one.explore();
        EXPECT.same("14: the beginning", one.stuck(), 0);
    }
}
