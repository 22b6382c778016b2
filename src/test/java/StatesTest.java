/** Promises 8 to 10 and 18: explore, state, step, way. */
public final class StatesTest {
    private static final Expect EXPECT = new Expect("StatesTest");

    public static void main(String[] args) {
        numbersStates();
        ordersSteps();
        pairDeeds();
        exactlyFourHundred();
        moreThanFourHundred();
        wrongInputs();
        ways();
        longWay();
        exploresAgain();
        EXPECT.end();
    }

    private static void sameStep(FairChecker x, int state, int step, int... due) {
        for (int what = 0; what < 5; what++) {
            EXPECT.same("10: step(" + state + ", " + step + ", " + what + ")", x.step(state, step, what), due[what]);
        }
    }

    /** Two processes that go 0 to 1, and back. */
    private static FairChecker square() {
        FairChecker x = new FairChecker();
        x.addProcess(2);
        x.addProcess(2);
        x.addMove(0, 0, 1, 0);
        x.addMove(0, 1, 0, 0);
        x.addMove(1, 0, 1, 0);
        return x;
    }

    private static void numbersStates() {
        FairChecker x = square();
        EXPECT.same("8: explore()", x.explore(), 4);
        int[][] locations = {{0, 0}, {1, 0}, {0, 1}, {1, 1}};
        int[] steps = {2, 2, 1, 1};
        int[] depths = {0, 1, 1, 2};
        for (int s = 0; s < 4; s++) {
            EXPECT.same("9: state " + s, x.state(s, 0), locations[s][0]);
            EXPECT.same("9: state " + s, x.state(s, 1), locations[s][1]);
            EXPECT.same("9: steps of " + s, x.state(s, 9), steps[s]);
            EXPECT.same("9: depth of " + s, x.state(s, 10), depths[s]);
        }
        sameStep(x, 0, 0, 1, 0, 0, -1, -1);
        sameStep(x, 0, 1, 2, 1, 0, -1, -1);
        sameStep(x, 1, 0, 0, 0, 1, -1, -1);
        sameStep(x, 1, 1, 3, 1, 0, -1, -1);
        sameStep(x, 2, 0, 3, 0, 0, -1, -1);
        sameStep(x, 3, 0, 2, 0, 1, -1, -1);
        EXPECT.same("8: all steps", x.count(5), 6);
    }

    private static void ordersSteps() {
        FairChecker x = new FairChecker();
        x.addProcess(1);
        x.addProcess(1);
        x.addProcess(1);
        x.addMove(0, 0, 0, 2);
        x.addMove(0, 0, 0, 0);
        x.addMove(0, 0, 0, 1);
        x.addMove(1, 0, 0, 1);
        x.addMove(1, 0, 0, 2);
        x.addMove(1, 0, 0, 2);
        x.addMove(2, 0, 0, 9);
        x.addMove(2, 0, 0, 2);
        EXPECT.same("8: explore()", x.explore(), 1);
        int[][] due = {{0, 0, 0, 1, 1}, {0, 0, 0, 1, 2}, {0, 0, 0, 2, 1}, {0, 0, 1, -1, -1}, {0, 0, 2, 1, 0},
            {0, 1, 1, 2, 1}, {0, 1, 2, 2, 1}};
        EXPECT.same("9: steps of 0", x.state(0, 9), due.length);
        for (int i = 0; i < due.length; i++) {
            sameStep(x, 0, i, due[i]);
        }
        FairChecker y = new FairChecker();
        for (int p = 0; p < 5; p++) {
            y.addProcess(1);
            for (int m = 0; m < 16; m++) {
                y.addMove(p, 0, 0, p < 3 ? 1 : 9);
            }
        }
        y.explore();
        EXPECT.same("9: steps of 0", y.state(0, 9), 4 * 256);
        sameStep(y, 0, 1023, 0, 3, 15, 4, 15);
        sameStep(y, 0, 767, 0, 1, 15, 2, 15);
    }

    /** A pair of deeds on one variable of 0 to 3 that begins with 2. */
    private static FairChecker pair(int sortOfA, int a, int sortOfB, int b) {
        FairChecker x = new FairChecker();
        x.addProcess(2);
        x.addProcess(2);
        x.addVariable(3, 2);
        x.addMove(0, 0, 1, 7);
        x.addMove(1, 0, 1, 7);
        x.deed(0, 0, sortOfA, 0, a);
        x.deed(1, 0, sortOfB, 0, b);
        return x;
    }

    private static void samePair(int sortOfA, int a, int sortOfB, int b, int due) {
        String what = "8: pair " + sortOfA + " " + a + ", " + sortOfB + " " + b;
        FairChecker x = pair(sortOfA, a, sortOfB, b);
        EXPECT.same(what, x.explore(), due < 0 ? 1 : 2);
        if (due >= 0) {
            EXPECT.same(what, x.state(1, 5), due);
            EXPECT.same(what, x.state(1, 0) + x.state(1, 1), 2);
        }
    }

    private static void pairDeeds() {
        samePair(2, 1, 2, -1, 2);
        samePair(2, 1, 2, 1, -1);
        samePair(2, -2, 2, -1, -1);
        // Each must be open by itself, too: 2 + 2 and 2 - 3 are out of the range.
        samePair(2, -2, 2, 2, -1);
        samePair(1, 3, 2, -3, -1);
        samePair(1, 0, 2, 1, 1);
        samePair(2, 1, 1, 0, 0);
        samePair(1, 1, 1, 3, 3);
        samePair(0, 0, 2, 1, 3);
        FairChecker x = pair(1, 0, 0, 0);
        x.guard(1, 0, 1, 0, 2);
        EXPECT.same("8: both guards are looked at ahead of the deeds", x.explore(), 2);
        x.guard(1, 0, 1, 0, 0);
        EXPECT.same("8: both guards are looked at ahead of the deeds", x.explore(), 1);
    }

    /** Three variables in place of counters: states as many as the product of their values. */
    private static FairChecker grid(int... greatest) {
        FairChecker x = new FairChecker();
        x.addProcess(1);
        for (int v = 0; v < greatest.length; v++) {
            x.addVariable(greatest[v], 0);
            x.addMove(0, 0, 0, 0);
            x.deed(0, v, 2, v, 1);
        }
        return x;
    }

    private static void exactlyFourHundred() {
        FairChecker x = grid(9, 9, 3);
        EXPECT.same("8: 400 states", x.explore(), 400);
        EXPECT.same("8: count(4)", x.count(4), 400);
        EXPECT.same("8: the last one", x.state(399, 5) + x.state(399, 6) + x.state(399, 7), 21);
        EXPECT.same("8: the last one's depth", x.state(399, 10), 21);
        EXPECT.same("8: the last one's steps", x.state(399, 9), 0);
        EXPECT.fails("8: state 400", Expect.INDEX, () -> x.state(400, 0));
    }

    private static void moreThanFourHundred() {
        FairChecker x = grid(9, 9, 4);
        EXPECT.same("8: 500 states", x.explore(), -1);
        EXPECT.same("8: count(4)", x.count(4), 0);
        EXPECT.same("8: count(5)", x.count(5), 0);
        EXPECT.fails("8: it is unexplored", Expect.STATE, x::stuck);
        EXPECT.fails("8: it is unexplored", Expect.INDEX, () -> x.state(0, 0));
        FairChecker y = new FairChecker();
        y.addProcess(4);
        y.addProcess(2);
        for (int v = 0; v < 2; v++) {
            y.addVariable(9, 0);
            y.addMove(1, 0, 0, 0);
            y.deed(1, v, 2, v, 1);
        }
        for (int l = 0; l < 3; l++) {
            y.addMove(0, l, l + 1, 0);
        }
        EXPECT.same("8: 400 states", y.explore(), 400);
        y.addMove(0, 3, 3, 6);
        y.guard(0, 3, 1, 0, 9);
        y.addMove(1, 0, 1, 6);
        y.guard(1, 2, 1, 1, 9);
        EXPECT.same("8: one more behind the last one", y.explore(), -1);
        y.guard(1, 2, 4, 1, 9);
        EXPECT.same("8: 400 states again", y.explore(), 400);
    }

    private static void wrongInputs() {
        FairChecker x = square();
        EXPECT.fails("9: unexplored", Expect.INDEX, () -> x.state(0, 0));
        EXPECT.fails("10: unexplored", Expect.INDEX, () -> x.step(0, 0, 0));
        EXPECT.fails("18: unexplored", Expect.INDEX, () -> x.way(0, 0, 0));
        x.addVariable(3, 1);
        x.explore();
        EXPECT.same("9: the variable", x.state(0, 5), 1);
        int[][] wrongStates = {{-1, 0}, {4, 0}, {400, 0}, {Integer.MIN_VALUE, 0}, {0, -1}, {0, 2}, {0, 3}, {0, 4},
            {0, 6}, {0, 7}, {0, 8}, {0, 11}, {0, Integer.MAX_VALUE}, {0, Integer.MIN_VALUE}, {0, Integer.MIN_VALUE + 5}};
        for (int[] w : wrongStates) {
            EXPECT.fails("9: state(" + w[0] + ", " + w[1] + ")", Expect.INDEX, () -> x.state(w[0], w[1]));
        }
        int[][] wrongSteps = {{-1, 0, 0}, {4, 0, 0}, {0, -1, 0}, {0, 2, 0}, {3, 1, 0}, {0, 0, -1}, {0, 0, 5},
            {0, Integer.MAX_VALUE, 0}, {Integer.MAX_VALUE, 0, 0}};
        for (int[] w : wrongSteps) {
            EXPECT.fails("10: step", Expect.INDEX, () -> x.step(w[0], w[1], w[2]));
        }
        int[][] wrongWays = {{-1, 0, 0}, {4, 0, 0}, {0, -1, 0}, {0, 401, 0}, {0, 0, -1}, {0, 0, 2},
            {0, Integer.MAX_VALUE, 0}};
        for (int[] w : wrongWays) {
            EXPECT.fails("18: way", Expect.INDEX, () -> x.way(w[0], w[1], w[2]));
        }
    }

    private static void ways() {
        FairChecker x = square();
        x.explore();
        EXPECT.same("18: the way to 0", x.way(0, 0, 0), -1);
        EXPECT.same("18: the way to 0", x.way(0, 400, 1), -1);
        // 3 was numbered from 1, although 2 leads to it, too.
        EXPECT.same("18: way", x.way(3, 0, 0), 0);
        EXPECT.same("18: way", x.way(3, 0, 1), 0);
        EXPECT.same("18: way", x.way(3, 1, 0), 1);
        EXPECT.same("18: way", x.way(3, 1, 1), 1);
        EXPECT.same("18: behind its end", x.way(3, 2, 0), -1);
        EXPECT.same("18: behind its end", x.way(3, 2, 1), -1);
        EXPECT.same("18: behind its end", x.way(3, 400, 0), -1);
        EXPECT.same("18: way", x.way(2, 0, 1), 1);
        FairChecker twice = new FairChecker();
        twice.addProcess(2);
        twice.addMove(0, 0, 0, 0);
        twice.addMove(0, 0, 1, 0);
        twice.addMove(0, 0, 1, 0);
        twice.explore();
        EXPECT.same("18: by the first such step", twice.way(1, 0, 1), 1);
    }

    /** A counter of three digits that goes through all its states, one behind the other. */
    private static FairChecker counter() {
        FairChecker x = new FairChecker();
        x.addProcess(3);
        x.addVariable(9, 0);
        x.addVariable(9, 0);
        x.addVariable(2, 0);
        // The location 0 counts, 1 carries to the second digit, 2 to the third one.
        int[][] moves = {{0, 0}, {0, 1}, {1, 0}, {1, 2}, {2, 0}};
        int[][] guards = {{0, 0, 0}, {1, 0, 9}, {0, 0, 0}, {1, 1, 9}, {0, 0, 0}};
        int[][] deeds = {{2, 0, 1}, {1, 0, 0}, {2, 1, 1}, {1, 1, 0}, {2, 2, 1}};
        for (int m = 0; m < moves.length; m++) {
            x.addMove(0, moves[m][0], moves[m][1], 0);
            x.guard(0, m, guards[m][0], guards[m][1], guards[m][2]);
            x.deed(0, m, deeds[m][0], deeds[m][1], deeds[m][2]);
        }
        return x;
    }

    private static void longWay() {
        FairChecker x = counter();
        int states = x.explore();
        EXPECT.same("18: a chain", states, 333);
        for (int s = 0; s < states; s++) {
            EXPECT.same("9: the depth in a chain", x.state(s, 10), s);
        }
        int last = states - 1;
        EXPECT.same("18: behind a chain", x.way(last, last, 0), -1);
        // An object is used for 512 calls alone: each one tells some steps of the way.
        for (int i = 0; i < last; i++) {
            if (i % 100 == 0) {
                x = counter();
                x.explore();
            }
            EXPECT.same("18: in a chain", x.way(last, i, 0), i);
            EXPECT.same("18: in a chain", x.step(i, x.way(last, i, 1), 0), i + 1);
        }
    }

    private static void exploresAgain() {
        FairChecker x = grid(9, 9, 3);
        x.explore();
        long big = x.digest();
        EXPECT.same("8: explored again", x.explore(), 400);
        EXPECT.same("8: the same again", x.digest(), big);
        x.guard(0, 0, 4, 0, 8);
        EXPECT.same("8: fewer now", x.explore(), 40);
        EXPECT.same("8: count(5)", x.count(5), 9 * 4 + 10 * 3);
        x.guard(0, 0, 0, 0, 0);
        EXPECT.same("8: more again", x.explore(), 400);
        EXPECT.same("8: the same again", x.digest(), big);
    }
}
