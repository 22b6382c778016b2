/** Promises 15 to 17: leads, isBad, trapped. */
public final class FairnessTest {
    private static final Expect EXPECT = new Expect("FairnessTest");

    public static void main(String[] args) {
        wrongInputs();
        processGoesOn();
        otherProcessIsNotLeftOut();
        closedNowAndThen();
        stepsWithoutQCount();
        handshakeIsTakenByBoth();
        stuckStates();
        alone();
        badThroughOthers();
        goesToQ();
        longRound();
        firstBadState();
        followsTheLastExploring();
        EXPECT.end();
    }

    private static void sameBad(String what, FairChecker x, int q, int... bad) {
        for (int s = 0; s < bad.length; s++) {
            EXPECT.isTrue(what + ": isBad(" + q + ", " + s + ")", x.isBad(q, s) == (bad[s] == 1));
        }
    }

    private static void wrongInputs() {
        FairChecker x = new FairChecker();
        x.addProcess(2);
        x.addFact(0, 0, 1);
        EXPECT.fails("15: unexplored", Expect.STATE, () -> x.leads(0, 0));
        EXPECT.fails("15: no fact ahead of unexplored", Expect.INDEX, () -> x.leads(0, 1));
        EXPECT.fails("15: no fact ahead of unexplored", Expect.INDEX, () -> x.leads(1, 0));
        EXPECT.fails("16: unexplored", Expect.INDEX, () -> x.isBad(0, 0) ? 1 : 0);
        EXPECT.fails("17: unexplored", Expect.STATE, () -> x.trapped(0));
        EXPECT.fails("17: no fact ahead of unexplored", Expect.INDEX, () -> x.trapped(1));
        x.explore();
        int[] bad = {-1, 1, 12, Integer.MIN_VALUE, Integer.MAX_VALUE};
        for (int b : bad) {
            EXPECT.fails("15: leads(" + b + ", 0)", Expect.INDEX, () -> x.leads(b, 0));
            EXPECT.fails("15: leads(0, " + b + ")", Expect.INDEX, () -> x.leads(0, b));
            EXPECT.fails("16: isBad(" + b + ", 0)", Expect.INDEX, () -> x.isBad(b, 0) ? 1 : 0);
            EXPECT.fails("16: isBad(0, " + b + ")", Expect.INDEX, () -> x.isBad(0, b) ? 1 : 0);
            EXPECT.fails("17: trapped(" + b + ")", Expect.INDEX, () -> x.trapped(b));
        }
    }

    /** A single process may go round for ever. */
    private static void processGoesOn() {
        FairChecker x = new FairChecker();
        x.addProcess(3);
        x.addMove(0, 0, 1, 0);
        x.addMove(0, 1, 0, 0);
        x.addMove(0, 1, 2, 0);
        x.addMove(0, 2, 2, 0);
        for (int l = 0; l < 3; l++) {
            x.addFact(0, 0, l);
        }
        x.explore();
        EXPECT.same("15: it may stay out of 2", x.leads(0, 2), 0);
        EXPECT.same("15: 0 leads to 1", x.leads(0, 1), -1);
        EXPECT.same("15: 1 does not lead to 0", x.leads(1, 0), 1);
        EXPECT.same("15: each leads to itself", x.leads(1, 1), -1);
        EXPECT.same("17: the round", x.trapped(2), 2);
        EXPECT.same("17: the end alone", x.trapped(1), 1);
        sameBad("16", x, 2, 1, 1, 0);
        sameBad("16", x, 1, 0, 0, 1);
        sameBad("16", x, 0, 0, 1, 1);
    }

    /** Process 0 goes round; process 1 can always go, and so it goes. */
    private static FairChecker roundAndGo() {
        FairChecker x = new FairChecker();
        x.addProcess(2);
        x.addProcess(2);
        x.addVariable(1, 0);
        x.addMove(0, 0, 1, 0);
        x.addMove(0, 1, 0, 0);
        x.addMove(1, 0, 1, 0);
        x.addFact(0, 1, 0);
        x.addFact(0, 1, 1);
        return x;
    }

    private static void otherProcessIsNotLeftOut() {
        FairChecker x = roundAndGo();
        x.explore();
        EXPECT.same("15: it is not left out", x.leads(0, 1), -1);
        EXPECT.same("17: no trap", x.trapped(1), 0);
        sameBad("16", x, 1, 0, 0, 0, 0);
        EXPECT.same("17: behind it goes on for ever", x.trapped(0), 2);
    }

    /** Process 1 can go in one of the two states alone: a run that misses it for ever is fair. */
    private static void closedNowAndThen() {
        FairChecker x = roundAndGo();
        x.deed(0, 0, 1, 0, 1);
        x.deed(0, 1, 1, 0, 0);
        x.guard(1, 0, 1, 0, 1);
        x.explore();
        EXPECT.same("15: it may be missed for ever", x.leads(0, 1), 0);
        EXPECT.same("17: the round", x.trapped(1), 2);
        sameBad("16", x, 1, 1, 1, 0);
    }

    /** Process 1 may do something else within the set, and so it is not left out. */
    private static void stepsWithoutQCount() {
        FairChecker x = roundAndGo();
        x.addMove(1, 0, 0, 0);
        x.explore();
        EXPECT.same("15: it does something else", x.leads(0, 1), 0);
        EXPECT.same("17: the round", x.trapped(1), 2);
        FairChecker y = roundAndGo();
        y.addProcess(1);
        y.addMove(2, 0, 0, 0);
        y.explore();
        EXPECT.same("15: what another one does is of no use", y.leads(0, 1), -1);
        EXPECT.same("17: no trap", y.trapped(1), 0);
    }

    private static void handshakeIsTakenByBoth() {
        FairChecker x = roundAndGo();
        x.addProcess(1);
        x.addMove(1, 0, 0, 3);
        x.addMove(2, 0, 0, 3);
        x.explore();
        EXPECT.same("15: taken by the first of the pair", x.leads(0, 1), 0);
        FairChecker y = new FairChecker();
        y.addProcess(1);
        y.addProcess(2);
        y.addMove(0, 0, 0, 3);
        y.addMove(1, 0, 0, 3);
        y.addMove(1, 0, 1, 0);
        y.addFact(0, 1, 1);
        y.explore();
        EXPECT.same("15: taken by the other of the pair", y.leads(0, 0), -1);
        EXPECT.same("17: taken by the other of the pair", y.trapped(0), 1);
        FairChecker z = new FairChecker();
        z.addProcess(2);
        z.addProcess(2);
        z.addProcess(1);
        z.addMove(0, 0, 1, 3);
        z.addMove(1, 0, 1, 3);
        z.addMove(2, 0, 0, 0);
        z.addFact(0, 1, 1);
        z.explore();
        EXPECT.same("17: an open pair is not left out", z.trapped(0), 0);
    }

    private static void stuckStates() {
        FairChecker x = new FairChecker();
        x.addProcess(3);
        x.addMove(0, 0, 1, 0);
        x.addMove(0, 0, 2, 0);
        x.addFact(0, 0, 0);
        x.addFact(0, 0, 1);
        x.addFact(5, 0, 1);
        x.explore();
        EXPECT.same("17: both ends", x.trapped(0), 2);
        EXPECT.same("17: one end", x.trapped(1), 1);
        EXPECT.same("15: 0 may end in 2", x.leads(0, 1), 0);
        EXPECT.same("15: 1 is an end", x.leads(1, 1), -1);
        sameBad("16", x, 1, 1, 0, 1);
        sameBad("16", x, 2, 0, 0, 1);
    }

    /** A state that is come to from itself by one step alone. */
    private static void alone() {
        FairChecker x = new FairChecker();
        x.addProcess(2);
        x.addMove(0, 0, 1, 0);
        x.addMove(0, 1, 1, 0);
        x.addFact(0, 0, 0);
        x.addFact(0, 0, 1);
        x.explore();
        EXPECT.same("17: a state that leads to itself", x.trapped(0), 1);
        EXPECT.same("17: a state that does not", x.trapped(1), 0);
        EXPECT.same("15: it goes on", x.leads(0, 1), -1);
    }

    /** The way to a trap leads through states without q alone. */
    private static void badThroughOthers() {
        FairChecker x = new FairChecker();
        x.addProcess(6);
        int[][] moves = {{0, 1}, {1, 2}, {2, 3}, {0, 4}, {4, 3}, {3, 3}, {1, 5}, {5, 5}};
        for (int[] m : moves) {
            x.addMove(0, m[0], m[1], 0);
        }
        x.addFact(0, 0, 4);
        x.addFact(0, 0, 1);
        x.addFact(0, 0, 5);
        x.addFact(5, 1, 2);
        x.addFact(5, 0, 3);
        // The states are the locations 0, 1, 4, 2, 5, 3.
        x.explore();
        sameBad("16", x, 4, 0, 0, 0, 1, 0, 1);
        sameBad("16", x, 0, 1, 1, 0, 1, 1, 1);
        sameBad("16", x, 3, 1, 0, 1, 1, 0, 1);
        EXPECT.same("17: the end without q", x.trapped(4), 1);
        EXPECT.same("15: 1 leads to q", x.leads(1, 4), -1);
        EXPECT.same("17: both ends", x.trapped(0), 2);
    }

    private static void goesToQ() {
        FairChecker x = new FairChecker();
        x.addProcess(3);
        x.addMove(0, 0, 1, 0);
        x.addMove(0, 1, 2, 0);
        x.addFact(0, 0, 2);
        x.addFact(0, 0, 0);
        x.explore();
        sameBad("16: nothing stays without q", x, 0, 0, 0, 0);
        EXPECT.same("15: 0 leads to the end", x.leads(1, 0), -1);
        EXPECT.same("17: no trap", x.trapped(0), 0);
    }

    /** The states of a round belong to one trap, though each leads to the next one alone. */
    private static void longRound() {
        FairChecker x = new FairChecker();
        x.addProcess(5);
        int[][] moves = {{0, 1}, {1, 2}, {2, 3}, {3, 1}, {2, 4}};
        for (int[] m : moves) {
            x.addMove(0, m[0], m[1], 0);
        }
        x.addFact(0, 0, 4);
        x.addFact(0, 0, 3);
        x.explore();
        EXPECT.same("17: the round alone", x.trapped(0), 3);
        sameBad("16: the round and ahead of it", x, 0, 1, 1, 1, 1, 0);
        EXPECT.same("17: without 3 the end alone", x.trapped(1), 1);
        FairChecker y = new FairChecker();
        y.addProcess(3);
        y.addProcess(2);
        for (int l = 0; l < 3; l++) {
            y.addMove(0, l, (l + 1) % 3, 0);
        }
        y.addVariable(1, 0);
        y.deed(0, 0, 1, 0, 1);
        y.deed(0, 2, 1, 0, 0);
        y.addMove(1, 0, 1, 0);
        y.guard(1, 0, 1, 0, 1);
        y.addFact(0, 1, 1);
        y.explore();
        EXPECT.same("17: one state of the round where it is closed will do", y.trapped(0), 3);
    }

    private static void firstBadState() {
        FairChecker x = new FairChecker();
        x.addProcess(4);
        for (int l = 0; l < 3; l++) {
            x.addMove(0, l, l + 1, 0);
        }
        x.addVariable(3, 0);
        x.addMove(0, 1, 0, 0);
        x.addFact(0, 0, 0);
        x.addFact(3, 0, 0);
        x.addFact(1, 0, 9);
        x.explore();
        EXPECT.same("15: the first state where p holds and that is bad", x.leads(1, 2), 1);
        EXPECT.same("15: p never holds", x.leads(2, 2), -1);
        EXPECT.same("15: bad states where p does not hold", x.leads(0, 0), -1);
    }

    private static void followsTheLastExploring() {
        FairChecker x = roundAndGo();
        x.explore();
        EXPECT.same("15: at first", x.leads(0, 1), -1);
        EXPECT.same("17: at first", x.trapped(1), 0);
        x.guard(1, 0, 4, 0, 0);
        EXPECT.fails("15: unexplored", Expect.STATE, () -> x.leads(0, 1));
        x.explore();
        EXPECT.same("15: for what was explored last", x.leads(0, 1), 0);
        EXPECT.same("17: for what was explored last", x.trapped(1), 2);
        x.guard(1, 0, 0, 0, 0);
        x.explore();
        EXPECT.same("15: as at first", x.leads(0, 1), -1);
        EXPECT.same("17: of another fact", x.trapped(0), 2);
        EXPECT.same("17: of the one before", x.trapped(1), 0);
        x.addFact(3, 1, 0);
        EXPECT.same("15: a fact of later", x.leads(1, 2), 2);
    }
}
